/-! a Grid loaded, copied, stored; its counts -/
section
variable {g : z_G} {d : Nat} {f : Nat → Option z_C} {q : Option Nat × Nat × Nat} {P : z_Res → Prop} {a : Nat} {S : GS}
def GS.sc (S : GS) (c : Nat → Nat) : GS := ⟨c, S.gv, S.b, S.R, S.C, S.G, S.N⟩
theorem sc_c (c : Nat → Nat) : (S.sc c).c = c := rfl
theorem sc_R (c : Nat → Nat) : (S.sc c).R = S.R := rfl
theorem sc_C (c : Nat → Nat) : (S.sc c).C = S.C := rfl
theorem sc_cc (f : Nat → Option z_C) (a : Nat) {c c' : Nat → Nat} (h : ∀ k, k < 25 → c k = c' k) : gw f a (S.sc c).w = gw f a (S.sc c').w :=
  gw_cc f a h (fun _ _ => rfl) (fun _ _ _ _ => rfl) rfl rfl rfl rfl
/-- the first n cells of t -/
def cl (t : Nat → Nat) (n : Nat) : Nat → Nat := fun k => if k < n then t k else 5
theorem s_load1 {x : Nat} {t : Nat → Nat} (hd : 0 < d) (hf : f x = some (.inl (.int, 25, .inl (arr 25 fun k => ce (t k))))) (hx : x < a ∨ a + 6 ≤ x) (ht : ∀ k, k < 25 → t k ≤ 5) (hR : S.R ≤ 5) (hC : S.C ≤ 5) {r : Nat} (hr : r < S.R) : ∀ (k j : Nat) (v : Value), j + k = S.C → ∃ v', z_T g d 27 16 [.ref a, .ref x, .int (nI r), .int (nI j), v] [] (gw f a (S.sc (cl t (r * 5 + j))).w, q) P = z_T g d 27 53 [.ref a, .ref x, .int (nI r), .int (nI S.C), v'] [] (gw f a (S.sc (cl t (r * 5 + S.C))).w, q) P
  | 0, j, v, h => by
    have : j = S.C := by omega
    subst this
    refine ⟨v, ?_⟩
    rw [ze_27_16]
    simp (disch := omega) only [ze_27_0, ze_27_1, ze_27_4, ze_27_5, ze_27_6, ze_27_7, ze_27_8, ze_27_11, ze_27_14, ze_27_15, ze_27_17, ze_27_18, ze_27_21, ze_27_24, ze_27_25, ze_27_26, ze_27_27, ze_27_28, ze_27_29, ze_27_30, ze_27_31, ze_27_33, ze_27_35, ze_27_36, ze_27_39, ze_27_40, ze_27_41, ze_27_42, ze_27_44, ze_27_47, ze_27_50, ze_27_56, ze_27_59, z_gI, z_gR, z_pF, z_aL, z_aS, z_gO, z_k_r, z_push_s, z_push_n, okS_0, okS_I, okS_R, okS_A, List.getElem?_cons_zero, List.getElem?_cons_succ, List.length_cons, List.length_nil, List.set_cons_zero, List.set_cons_succ, true_and, and_true, z_tI, z_tB, pk_mul, nI_add, cI_cl, cI_ix, arr_at, arr_upd, nar_0, nar_1, nar_b, Nat.reduceAdd, Nat.reduceLT, Nat.reduceMul, cI_lt, cI_eq, if_true, if_false, Nat.lt_irrefl, eq_self, Nat.reduceEqDiff, or_true, true_or, or_false, not_false_eq_true, not_true_eq_false, ce_5, pGW_A, pGW_V, pGW_B, pGW_r, pGW_c, pGW_R, pGW_C, pGW_F, pGW_G, pGW_N, pGS_c, pGS_gv, pGS_b, pGS_R, pGS_C, pGS_G, pGS_N, gw_0, gw_1, gw_2, gw_3, gw_4, gw_5, gw_u0, gw_u1, gw_u2, gw_u3, gw_u4, gw_u5, gs_A, gs_V, gs_B, gs_r, gs_c, gs_R, gs_C, gs_F, gs_G, gs_N, sc_C]
  | k + 1, j, v, h => by
    have hj : j < S.C := by omega
    have hx1 := gw_ne f a (S.sc (cl t (r * 5 + j))).w hx
    have h5 := ht (r * 5 + j) (by omega)
    obtain ⟨v', hv⟩ := s_load1 hd hf hx ht hR hC hr k (j + 1) (.int (ce (t (r * 5 + j)))) (by omega)
    refine ⟨v', ?_⟩
    rw [← hv]
    rw [ze_27_16]
    simp (disch := omega) only [ze_27_0, ze_27_1, ze_27_4, ze_27_5, ze_27_6, ze_27_7, ze_27_8, ze_27_11, ze_27_14, ze_27_15, ze_27_17, ze_27_18, ze_27_21, ze_27_24, ze_27_25, ze_27_26, ze_27_27, ze_27_28, ze_27_29, ze_27_30, ze_27_31, ze_27_33, ze_27_35, ze_27_36, ze_27_39, ze_27_40, ze_27_41, ze_27_42, ze_27_44, ze_27_47, ze_27_50, ze_27_56, ze_27_59, z_gI, z_gR, z_pF, z_aL, z_aS, z_gO, z_k_r, z_push_s, z_push_n, okS_0, okS_I, okS_R, okS_A, List.getElem?_cons_zero, List.getElem?_cons_succ, List.length_cons, List.length_nil, List.set_cons_zero, List.set_cons_succ, true_and, and_true, z_tI, z_tB, pk_mul, nI_add, cI_cl, cI_ix, arr_at, arr_upd, nar_0, nar_1, nar_b, Nat.reduceAdd, Nat.reduceLT, Nat.reduceMul, cI_lt, cI_eq, if_true, if_false, Nat.lt_irrefl, eq_self, Nat.reduceEqDiff, or_true, true_or, or_false, not_false_eq_true, not_true_eq_false, ce_5, pGW_A, pGW_V, pGW_B, pGW_r, pGW_c, pGW_R, pGW_C, pGW_F, pGW_G, pGW_N, pGS_c, pGS_gv, pGS_b, pGS_R, pGS_C, pGS_G, pGS_N, gw_0, gw_1, gw_2, gw_3, gw_4, gw_5, gw_u0, gw_u1, gw_u2, gw_u3, gw_u4, gw_u5, gs_A, gs_V, gs_B, gs_r, gs_c, gs_R, gs_C, gs_F, gs_G, gs_N, sc_C, hj, hx1, hf, ce_em h5]
    by_cases e : t (r * 5 + j) = 5
    · simp (disch := omega) only [z_gI, z_gR, z_pF, z_aL, z_aS, z_gO, z_k_r, z_push_s, z_push_n, okS_0, okS_I, okS_R, okS_A, List.getElem?_cons_zero, List.getElem?_cons_succ, List.length_cons, List.length_nil, List.set_cons_zero, List.set_cons_succ, true_and, and_true, z_tI, z_tB, pk_mul, nI_add, cI_cl, cI_ix, arr_at, arr_upd, nar_0, nar_1, nar_b, Nat.reduceAdd, Nat.reduceLT, Nat.reduceMul, e, if_true]
      rw [sc_cc f a (c := cl t (r * 5 + j)) (c' := cl t (r * 5 + (j + 1)))]
      intro k hk
      unfold cl
      by_cases e2 : k = r * 5 + j
      · rw [if_neg (by omega), e2, if_pos (by omega), e]
      · by_cases e3 : k < r * 5 + j
        · rw [if_pos e3, if_pos (by omega)]
        · rw [if_neg e3, if_neg (by omega)]
    · have hs : t (r * 5 + j) < 5 := by omega
      have hp := fun P => s_put (g := g) (d := d - 1) (f := f) (q := q) (P := P) (a := a) (S := S.sc (cl t (r * 5 + j))) (r := r) (j := j) (s := t (r * 5 + j)) (by omega) (by omega) hs (if_neg (by omega))
      rw [← ce_lt hs] at hp
      simp (disch := omega) only [ze_27_0, ze_27_1, ze_27_4, ze_27_5, ze_27_6, ze_27_7, ze_27_8, ze_27_11, ze_27_14, ze_27_15, ze_27_17, ze_27_18, ze_27_21, ze_27_24, ze_27_25, ze_27_26, ze_27_27, ze_27_28, ze_27_29, ze_27_30, ze_27_31, ze_27_33, ze_27_35, ze_27_36, ze_27_39, ze_27_40, ze_27_41, ze_27_42, ze_27_44, ze_27_47, ze_27_50, ze_27_56, ze_27_59, z_gI, z_gR, z_pF, z_aL, z_aS, z_gO, z_k_r, z_push_s, z_push_n, okS_0, okS_I, okS_R, okS_A, List.getElem?_cons_zero, List.getElem?_cons_succ, List.length_cons, List.length_nil, List.set_cons_zero, List.set_cons_succ, true_and, and_true, z_tI, z_tB, pk_mul, nI_add, cI_cl, cI_ix, arr_at, arr_upd, nar_0, nar_1, nar_b, Nat.reduceAdd, Nat.reduceLT, Nat.reduceMul, e, if_false, hp, hd]
      have : gw f a ((S.sc (cl t (r * 5 + j))).put r j (t (r * 5 + j))).w = gw f a (S.sc (cl t (r * 5 + (j + 1)))).w := by
        refine gw_cc f a (fun k hk => ?_) (fun _ _ => rfl) (fun _ _ _ _ => rfl) rfl rfl rfl rfl
        show nu (cl t (r * 5 + j)) (r * 5 + j) (t (r * 5 + j)) k = cl t (r * 5 + (j + 1)) k
        unfold nu cl
        by_cases e2 : k = r * 5 + j
        · rw [if_pos e2, e2, if_pos (by omega)]
        · rw [if_neg e2]
          by_cases e3 : k < r * 5 + j
          · rw [if_pos e3, if_pos (by omega)]
          · rw [if_neg e3, if_neg (by omega)]
      rw [this]
theorem s_load2 {x : Nat} {t : Nat → Nat} (hd : 0 < d) (hf : f x = some (.inl (.int, 25, .inl (arr 25 fun k => ce (t k))))) (hx : x < a ∨ a + 6 ≤ x) (ht : ∀ k, k < 25 → t k ≤ 5) (hR : S.R ≤ 5) (hC : S.C ≤ 5) (ho : ∀ r j, r < 5 → j < 5 → S.R ≤ r ∨ S.C ≤ j → t (r * 5 + j) = 5) : ∀ (k r : Nat) (v w : Value), r + k = S.R → z_T g d 27 6 [.ref a, .ref x, .int (nI r), v, w] [] (gw f a (S.sc (cl t (r * 5))).w, q) P = P (.inr none, (gw f a (S.sc t).w, q))
  | 0, r, v, w, h => by
    have : r = S.R := by omega
    subst this
    rw [ze_27_6]
    simp (disch := omega) only [ze_27_0, ze_27_1, ze_27_4, ze_27_5, ze_27_7, ze_27_8, ze_27_11, ze_27_14, ze_27_15, ze_27_17, ze_27_18, ze_27_21, ze_27_24, ze_27_25, ze_27_26, ze_27_27, ze_27_28, ze_27_29, ze_27_30, ze_27_31, ze_27_33, ze_27_35, ze_27_36, ze_27_39, ze_27_40, ze_27_41, ze_27_42, ze_27_44, ze_27_47, ze_27_50, ze_27_53, ze_27_56, ze_27_59, z_gI, z_gR, z_pF, z_aL, z_aS, z_gO, z_k_r, z_push_s, z_push_n, okS_0, okS_I, okS_R, okS_A, List.getElem?_cons_zero, List.getElem?_cons_succ, List.length_cons, List.length_nil, List.set_cons_zero, List.set_cons_succ, true_and, and_true, z_tI, z_tB, pk_mul, nI_add, cI_cl, cI_ix, arr_at, arr_upd, nar_0, nar_1, nar_b, Nat.reduceAdd, Nat.reduceLT, Nat.reduceMul, cI_lt, cI_eq, if_true, if_false, Nat.lt_irrefl, eq_self, Nat.reduceEqDiff, or_true, true_or, or_false, not_false_eq_true, not_true_eq_false, ce_5, pGW_A, pGW_V, pGW_B, pGW_r, pGW_c, pGW_R, pGW_C, pGW_F, pGW_G, pGW_N, pGS_c, pGS_gv, pGS_b, pGS_R, pGS_C, pGS_G, pGS_N, gw_0, gw_1, gw_2, gw_3, gw_4, gw_5, gw_u0, gw_u1, gw_u2, gw_u3, gw_u4, gw_u5, gs_A, gs_V, gs_B, gs_r, gs_c, gs_R, gs_C, gs_F, gs_G, gs_N, sc_R]
    rw [sc_cc f a]
    intro k hk
    unfold cl
    split
    · rfl
    · have := ho (k / 5) (k % 5) (by omega) (by omega) (Or.inl (by omega))
      rw [← this]
      congr 1
      omega
  | k + 1, r, v, w, h => by
    have hr : r < S.R := by omega
    rw [ze_27_6]
    simp (disch := omega) only [ze_27_0, ze_27_1, ze_27_4, ze_27_5, ze_27_7, ze_27_8, ze_27_11, ze_27_14, ze_27_15, ze_27_17, ze_27_18, ze_27_21, ze_27_24, ze_27_25, ze_27_26, ze_27_27, ze_27_28, ze_27_29, ze_27_30, ze_27_31, ze_27_33, ze_27_35, ze_27_36, ze_27_39, ze_27_40, ze_27_41, ze_27_42, ze_27_44, ze_27_47, ze_27_50, ze_27_53, ze_27_56, ze_27_59, z_gI, z_gR, z_pF, z_aL, z_aS, z_gO, z_k_r, z_push_s, z_push_n, okS_0, okS_I, okS_R, okS_A, List.getElem?_cons_zero, List.getElem?_cons_succ, List.length_cons, List.length_nil, List.set_cons_zero, List.set_cons_succ, true_and, and_true, z_tI, z_tB, pk_mul, nI_add, cI_cl, cI_ix, arr_at, arr_upd, nar_0, nar_1, nar_b, Nat.reduceAdd, Nat.reduceLT, Nat.reduceMul, cI_lt, cI_eq, if_true, if_false, Nat.lt_irrefl, eq_self, Nat.reduceEqDiff, or_true, true_or, or_false, not_false_eq_true, not_true_eq_false, ce_5, pGW_A, pGW_V, pGW_B, pGW_r, pGW_c, pGW_R, pGW_C, pGW_F, pGW_G, pGW_N, pGS_c, pGS_gv, pGS_b, pGS_R, pGS_C, pGS_G, pGS_N, gw_0, gw_1, gw_2, gw_3, gw_4, gw_5, gw_u0, gw_u1, gw_u2, gw_u3, gw_u4, gw_u5, gs_A, gs_V, gs_B, gs_r, gs_c, gs_R, gs_C, gs_F, gs_G, gs_N, sc_R, hr]
    obtain ⟨v', hv⟩ := s_load1 (g := g) (q := q) (P := P) hd hf hx ht hR hC hr S.C 0 w (by omega)
    rw [Nat.add_zero] at hv
    rw [hv]
    simp (disch := omega) only [ze_27_0, ze_27_1, ze_27_4, ze_27_5, ze_27_7, ze_27_8, ze_27_11, ze_27_14, ze_27_15, ze_27_17, ze_27_18, ze_27_21, ze_27_24, ze_27_25, ze_27_26, ze_27_27, ze_27_28, ze_27_29, ze_27_30, ze_27_31, ze_27_33, ze_27_35, ze_27_36, ze_27_39, ze_27_40, ze_27_41, ze_27_42, ze_27_44, ze_27_47, ze_27_50, ze_27_53, ze_27_56, ze_27_59, z_gI, z_gR, z_pF, z_aL, z_aS, z_gO, z_k_r, z_push_s, z_push_n, okS_0, okS_I, okS_R, okS_A, List.getElem?_cons_zero, List.getElem?_cons_succ, List.length_cons, List.length_nil, List.set_cons_zero, List.set_cons_succ, true_and, and_true, z_tI, z_tB, pk_mul, nI_add, cI_cl, cI_ix, arr_at, arr_upd, nar_0, nar_1, nar_b, Nat.reduceAdd, Nat.reduceLT, Nat.reduceMul, cI_lt, cI_eq, if_true, if_false, Nat.lt_irrefl, eq_self, Nat.reduceEqDiff, or_true, true_or, or_false, not_false_eq_true, not_true_eq_false, ce_5]
    rw [← s_load2 hd hf hx ht hR hC ho k (r + 1) _ _ (by omega)]
    rw [sc_cc f a (c := cl t (r * 5 + S.C)) (c' := cl t ((r + 1) * 5))]
    intro k hk
    unfold cl
    by_cases e : k < r * 5 + S.C
    · rw [if_pos e, if_pos (by omega)]
    · rw [if_neg e]
      split
      · have := ho (k / 5) (k % 5) (by omega) (by omega) (Or.inr (by omega))
        rw [← this]
        congr 1
        omega
      · rfl
theorem s_load {x : Nat} {t : Nat → Nat} (W : GW) (hW : ∀ A r c F, (⟨A, W.V, W.B, r, c, W.R, W.C, F, W.G, W.N⟩ : GW) = ⟨A, S.w.V, S.w.B, r, c, S.w.R, S.w.C, F, S.w.G, S.w.N⟩) (hd : 0 < d) (hf : f x = some (.inl (.int, 25, .inl (arr 25 fun k => ce (t k))))) (hx : x < a ∨ a + 6 ≤ x) (ht : ∀ k, k < 25 → t k ≤ 5) (hR : S.R ≤ 5) (hC : S.C ≤ 5) (ho : ∀ r j, r < 5 → j < 5 → S.R ≤ r ∨ S.C ≤ j → t (r * 5 + j) = 5) : z_Ca g d 27 [.ref a, .ref x] (gw f a W, q) P = P (.inr none, (gw f a (S.sc t).w, q)) := by
  rw [zn_27]
  simp (disch := omega) only [ze_27_0, ze_27_1, ze_27_4, ze_27_5, ze_27_7, ze_27_8, ze_27_11, ze_27_14, ze_27_15, ze_27_16, ze_27_17, ze_27_18, ze_27_21, ze_27_24, ze_27_25, ze_27_26, ze_27_27, ze_27_28, ze_27_29, ze_27_30, ze_27_31, ze_27_33, ze_27_35, ze_27_36, ze_27_39, ze_27_40, ze_27_41, ze_27_42, ze_27_44, ze_27_47, ze_27_50, ze_27_53, ze_27_56, ze_27_59, z_gI, z_gR, z_pF, z_aL, z_aS, z_gO, z_k_r, z_push_s, z_push_n, okS_0, okS_I, okS_R, okS_A, List.getElem?_cons_zero, List.getElem?_cons_succ, List.length_cons, List.length_nil, List.set_cons_zero, List.set_cons_succ, true_and, and_true, z_tI, z_tB, pk_mul, nI_add, cI_cl, cI_ix, arr_at, arr_upd, nar_0, nar_1, nar_b, Nat.reduceAdd, Nat.reduceLT, Nat.reduceMul, pGW_A, pGW_V, pGW_B, pGW_r, pGW_c, pGW_R, pGW_C, pGW_F, pGW_G, pGW_N, pGS_c, pGS_gv, pGS_b, pGS_R, pGS_C, pGS_G, pGS_N, gw_0, gw_1, gw_2, gw_3, gw_4, gw_5, gw_u0, gw_u1, gw_u2, gw_u3, gw_u4, gw_u5, s_clear, hd]
  refine Eq.trans ?_ (s_load2 (g := g) (q := q) (P := P) hd hf hx ht hR hC ho S.R 0 z_un z_un (by omega))
  rw [hW]
  refine congrArg (fun z => z_T g d 27 6 [.ref a, .ref x, .int (nI 0), z_un, z_un] [] (z, q) P) (gw_congr _ _ (fun k hk => rfl) (fun k _ => rfl) (fun k _ => rfl) (fun k _ => ?_) (fun k _ => ?_) ⟨rfl, rfl, rfl, rfl, rfl⟩)
  · exact (sS_eq0.mpr (rU_5 k)).symm
  · exact (sS_eq0.mpr (cU_5 k)).symm
end
