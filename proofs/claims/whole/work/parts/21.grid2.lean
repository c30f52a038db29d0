/-! a Grid's other methods -/
def GS.take (S : GS) (r j : Nat) : GS := ⟨nu S.c (r * 5 + j) 5, S.gv, S.b, S.R, S.C, S.G, S.N⟩
/-- what a rectangle keeps to -/
def GI (S : GS) : Prop := (1 ≤ S.R) ∧ (S.R ≤ S.C) ∧ (2 ≤ S.C) ∧ (S.C ≤ 5) ∧ (∀ k, S.c k ≤ 5) ∧ (∀ k, S.c k ≠ 5 → S.c k < S.C) ∧ (∀ r j, r < 5 → j < 5 → S.R ≤ r ∨ S.C ≤ j → S.c (r * 5 + j) = 5) ∧ (∀ r j j', r < 5 → j < 5 → j' < 5 → S.c (r * 5 + j) = S.c (r * 5 + j') → S.c (r * 5 + j) ≠ 5 → j = j') ∧ (∀ r r' j, r < 5 → r' < 5 → j < 5 → S.c (r * 5 + j) = S.c (r' * 5 + j) → S.c (r * 5 + j) ≠ 5 → r = r')
theorem GI.R1 {S : GS} (h : GI S) : 1 ≤ S.R := h.1
theorem GI.RC {S : GS} (h : GI S) : S.R ≤ S.C := h.2.1
theorem GI.C2 {S : GS} (h : GI S) : 2 ≤ S.C := h.2.2.1
theorem GI.C5 {S : GS} (h : GI S) : S.C ≤ 5 := h.2.2.2.1
theorem GI.c5 {S : GS} (h : GI S) : ∀ k, S.c k ≤ 5 := h.2.2.2.2.1
theorem GI.sy {S : GS} (h : GI S) : ∀ k, S.c k ≠ 5 → S.c k < S.C := h.2.2.2.2.2.1
theorem GI.out {S : GS} (h : GI S) : ∀ r j, r < 5 → j < 5 → S.R ≤ r ∨ S.C ≤ j → S.c (r * 5 + j) = 5 := h.2.2.2.2.2.2.1
theorem GI.row {S : GS} (h : GI S) : ∀ r j j', r < 5 → j < 5 → j' < 5 → S.c (r * 5 + j) = S.c (r * 5 + j') → S.c (r * 5 + j) ≠ 5 → j = j' := h.2.2.2.2.2.2.2.1
theorem GI.col {S : GS} (h : GI S) : ∀ r r' j, r < 5 → r' < 5 → j < 5 → S.c (r * 5 + j) = S.c (r' * 5 + j) → S.c (r * 5 + j) ≠ 5 → r = r' := h.2.2.2.2.2.2.2.2
theorem nF_congr {c c' : Nat → Nat} : ∀ n, (∀ k, k < n → c k = c' k) → nF c n = nF c' n
  | 0, _ => rfl
  | n + 1, h => by
    unfold nF
    rw [nF_congr n (fun k hk => h k (by omega)), h n (by omega)]
theorem gw_cc (f : Nat → Option z_C) (a : Nat) {S S' : GS} (h1 : ∀ k, k < 25 → S.c k = S'.c k) (h2 : ∀ k, k < 25 → S.gv k = S'.gv k) (h3 : ∀ k, k < 25 → ∀ s, s < 5 → S.b k s = S'.b k s) (hR : S.R = S'.R) (hC : S.C = S'.C) (hG : S.G = S'.G) (hN : S.N = S'.N) : gw f a S.w = gw f a S'.w := by
  refine gw_congr f a (fun k hk => ?_) (fun k hk => ?_) (fun k hk => ?_) (fun k hk => ?_) (fun k hk => ?_) ⟨?_, ?_, ?_, ?_, ?_⟩
  · exact congrArg ce (h1 k hk)
  · exact congrArg zb (h2 k hk)
  · exact sS_congr (h3 k hk)
  · refine sS_congr fun s hs => ?_
    unfold rU
    rw [h1 _ (by omega), h1 _ (by omega), h1 _ (by omega), h1 _ (by omega), h1 _ (by omega)]
  · refine sS_congr fun s hs => ?_
    unfold cU
    rw [h1 _ (by omega), h1 _ (by omega), h1 _ (by omega), h1 _ (by omega), h1 _ (by omega)]
  · exact congrArg nI hR
  · exact congrArg nI hC
  · exact congrArg nI (nF_congr 25 h1)
  · exact congrArg nI hG
  · exact congrArg nI hN
section
variable {g : z_G} {d : Nat} {f : Nat → Option z_C} {q : Option Nat × Nat × Nat} {P : z_Res → Prop} {a : Nat} {S : GS}
theorem s_take {r j : Nat} (hr : r < 5) (hj : j < 5) (hs : S.c (r * 5 + j) < 5) (h1 : ∀ i, i < 5 → S.c (r * 5 + i) = S.c (r * 5 + j) → i = j) (h2 : ∀ i, i < 5 → S.c (i * 5 + j) = S.c (r * 5 + j) → i = r) : z_Ca g d 34 [.ref a, .int (nI r), .int (nI j)] (gw f a S.w, q) P = P (.inr none, (gw f a (S.take r j).w, q)) := by
  have es : ce (S.c (r * 5 + j)) = nI (S.c (r * 5 + j)) := ce_lt hs
  rw [zn_34]
  simp (disch := omega) only [ze_34_0, ze_34_1, ze_34_4, ze_34_5, ze_34_6, ze_34_7, ze_34_8, ze_34_9, ze_34_10, ze_34_11, ze_34_12, ze_34_15, ze_34_16, ze_34_17, ze_34_18, ze_34_19, ze_34_20, ze_34_21, ze_34_22, ze_34_23, ze_34_26, ze_34_27, ze_34_28, ze_34_29, ze_34_30, ze_34_31, ze_34_32, ze_34_33, ze_34_34, ze_34_35, ze_34_36, ze_34_37, ze_34_40, ze_34_41, ze_34_42, ze_34_43, ze_34_44, ze_34_45, ze_34_46, ze_34_47, ze_34_48, ze_34_49, ze_34_50, ze_34_51, ze_34_51_i, ze_34_52, ze_34_55, ze_34_56, ze_34_57, ze_34_60, z_gI, z_gR, z_pF, z_aL, z_aS, z_gO, z_k_r, z_push_s, z_push_n, okS_0, okS_I, okS_R, okS_A, List.getElem?_cons_zero, List.getElem?_cons_succ, List.length_cons, List.length_nil, List.set_cons_zero, List.set_cons_succ, true_and, and_true, z_tI, z_tB, pk_mul, nI_add, cI_cl, cI_ix, arr_at, arr_upd, nar_0, nar_1, nar_b, Nat.reduceAdd, Nat.reduceLT, Nat.reduceMul, pGW_A, pGW_V, pGW_B, pGW_r, pGW_c, pGW_R, pGW_C, pGW_F, pGW_G, pGW_N, pGS_c, pGS_gv, pGS_b, pGS_R, pGS_C, pGS_G, pGS_N, gw_0, gw_1, gw_2, gw_3, gw_4, gw_5, gw_u0, gw_u1, gw_u2, gw_u3, gw_u4, gw_u5, gs_A, gs_V, gs_B, gs_r, gs_c, gs_R, gs_C, gs_F, gs_G, gs_N, es]
  refine congrArg (fun z => P (.inr none, (z, q))) (gw_congr _ _ (fun k hk => ?_) (fun k _ => rfl) (fun k _ => rfl) (fun k hk => ?_) (fun k hk => ?_) ⟨rfl, rfl, ?_, rfl, rfl⟩)
  · simp only [pGW_A, pGW_V, pGW_B, pGW_r, pGW_c, pGW_R, pGW_C, pGW_F, pGW_G, pGW_N, pGS_c, pGS_gv, pGS_b, pGS_R, pGS_C, pGS_G, pGS_N, gs_A, gs_V, gs_B, gs_r, gs_c, gs_R, gs_C, gs_F, gs_G, gs_N, GS.put, GS.take]
    rw [← ce_5, upd_zc]
  · simp only [pGW_A, pGW_V, pGW_B, pGW_r, pGW_c, pGW_R, pGW_C, pGW_F, pGW_G, pGW_N, pGS_c, pGS_gv, pGS_b, pGS_R, pGS_C, pGS_G, pGS_N, gs_A, gs_V, gs_B, gs_r, gs_c, gs_R, gs_C, gs_F, gs_G, gs_N, GS.put, GS.take]
    by_cases e : k = r
    · subst e
      rw [upd_at, sS_one hs, sS_andn]
      refine sS_congr fun t ht => ?_
      rw [rU_take hj h1 ht, if_pos rfl]
    · rw [upd_ne e]
      refine sS_congr fun t ht => ?_
      rw [rU_take hj h1 ht, if_neg e]
  · simp only [pGW_A, pGW_V, pGW_B, pGW_r, pGW_c, pGW_R, pGW_C, pGW_F, pGW_G, pGW_N, pGS_c, pGS_gv, pGS_b, pGS_R, pGS_C, pGS_G, pGS_N, gs_A, gs_V, gs_B, gs_r, gs_c, gs_R, gs_C, gs_F, gs_G, gs_N, GS.put, GS.take]
    by_cases e : k = j
    · subst e
      rw [upd_at, sS_one hs, sS_andn]
      refine sS_congr fun t ht => ?_
      rw [cU_take hr hj h2 ht, if_pos rfl]
    · rw [upd_ne e]
      refine sS_congr fun t ht => ?_
      rw [cU_take hr hj h2 ht, if_neg e]
  · simp only [pGW_A, pGW_V, pGW_B, pGW_r, pGW_c, pGW_R, pGW_C, pGW_F, pGW_G, pGW_N, pGS_c, pGS_gv, pGS_b, pGS_R, pGS_C, pGS_G, pGS_N, gs_A, gs_V, gs_B, gs_r, gs_c, gs_R, gs_C, gs_F, gs_G, gs_N, GS.put, GS.take]
    have := nF_take S.c (k := r * 5 + j) (by omega) 25 (by omega)
    rw [cI_sub (by omega)]
    congr 1
    omega
theorem s_forb (hb : ∀ k, k < 25 → True) {k s : Nat} (hk : k < 25) (hs : s < 5) : z_Ca g d 36 [.ref a, .int (nI k), .int (nI s)] (gw f a S.w, q) P = P (.inr none, (gw f a (S.forbid k s).w, q)) := by
  rw [zn_36]
  simp (disch := omega) only [ze_36_0, ze_36_1, ze_36_4, ze_36_5, ze_36_6, ze_36_7, ze_36_8, ze_36_9, ze_36_10, ze_36_11, ze_36_12, ze_36_13, ze_36_13_i, ze_36_14, ze_36_17, ze_36_18, ze_36_19, ze_36_22, z_gI, z_gR, z_pF, z_aL, z_aS, z_gO, z_k_r, z_push_s, z_push_n, okS_0, okS_I, okS_R, okS_A, List.getElem?_cons_zero, List.getElem?_cons_succ, List.length_cons, List.length_nil, List.set_cons_zero, List.set_cons_succ, true_and, and_true, z_tI, z_tB, pk_mul, nI_add, cI_cl, cI_ix, arr_at, arr_upd, nar_0, nar_1, nar_b, Nat.reduceAdd, Nat.reduceLT, Nat.reduceMul, pGW_A, pGW_V, pGW_B, pGW_r, pGW_c, pGW_R, pGW_C, pGW_F, pGW_G, pGW_N, pGS_c, pGS_gv, pGS_b, pGS_R, pGS_C, pGS_G, pGS_N, gw_0, gw_1, gw_2, gw_3, gw_4, gw_5, gw_u0, gw_u1, gw_u2, gw_u3, gw_u4, gw_u5, gs_A, gs_V, gs_B, gs_r, gs_c, gs_R, gs_C, gs_F, gs_G, gs_N]
  refine congrArg (fun z => P (.inr none, (z, q))) (gw_congr _ _ (fun k hk => rfl) (fun k _ => rfl) (fun i _ => ?_) (fun k hk => rfl) (fun k hk => rfl) ⟨rfl, rfl, rfl, rfl, rfl⟩)
  simp only [pGW_A, pGW_V, pGW_B, pGW_r, pGW_c, pGW_R, pGW_C, pGW_F, pGW_G, pGW_N, pGS_c, pGS_gv, pGS_b, pGS_R, pGS_C, pGS_G, pGS_N, gs_A, gs_V, gs_B, gs_r, gs_c, gs_R, gs_C, gs_F, gs_G, gs_N, GS.forbid, GS.give]
  by_cases e : i = k
  · subst e
    rw [upd_at, sS_one hs, sS_or]
    exact sS_congr fun t _ => (if_pos rfl).symm
  · rw [upd_ne e]
    exact sS_congr fun t _ => (if_neg e).symm
theorem s_isf {k s : Nat} (hk : k < 25) (hs : s < 5) : z_Ca g d 37 [.ref a, .int (nI k), .int (nI s)] (gw f a S.w, q) P = P (.inr (some (.int (zb (S.b k s)))), (gw f a S.w, q)) := by
  rw [zn_37]
  simp (disch := omega) only [ze_37_0, ze_37_1, ze_37_4, ze_37_5, ze_37_6, ze_37_7, ze_37_8, ze_37_9, ze_37_10, ze_37_13, ze_37_14, ze_37_17, ze_37_18, z_gI, z_gR, z_pF, z_aL, z_aS, z_gO, z_k_r, z_push_s, z_push_n, okS_0, okS_I, okS_R, okS_A, List.getElem?_cons_zero, List.getElem?_cons_succ, List.length_cons, List.length_nil, List.set_cons_zero, List.set_cons_succ, true_and, and_true, z_tI, z_tB, pk_mul, nI_add, cI_cl, cI_ix, arr_at, arr_upd, nar_0, nar_1, nar_b, Nat.reduceAdd, Nat.reduceLT, Nat.reduceMul, pGW_A, pGW_V, pGW_B, pGW_r, pGW_c, pGW_R, pGW_C, pGW_F, pGW_G, pGW_N, pGS_c, pGS_gv, pGS_b, pGS_R, pGS_C, pGS_G, pGS_N, gw_0, gw_1, gw_2, gw_3, gw_4, gw_5, gw_u0, gw_u1, gw_u2, gw_u3, gw_u4, gw_u5, gs_A, gs_V, gs_B, gs_r, gs_c, gs_R, gs_C, gs_F, gs_G, gs_N, sS_bit, zb_0]
  cases S.b k s <;> simp [zb, cI_eq]
def GS.full (S : GS) (r : Nat) : Bool := decide (∀ j, j < S.C → S.c (r * 5 + j) ≠ 5)
theorem s_fullraw {r : Nat} {p : Bool} (hp : p = true ↔ ∀ s, s < 5 → rU S.c r s = decide (s < S.C)) (hC : S.C ≤ 5) (hr : r < 5) : z_Ca g d 39 [.ref a, .int (nI r)] (gw f a S.w, q) P = P (.inr (some (.int (zb p))), (gw f a S.w, q)) := by
  rw [zn_39]
  simp (disch := omega) only [ze_39_0, ze_39_1, ze_39_4, ze_39_5, ze_39_6, ze_39_7, ze_39_8, ze_39_11, ze_39_12, ze_39_13, ze_39_14, ze_39_17, ze_39_18, ze_39_21, ze_39_22, z_gI, z_gR, z_pF, z_aL, z_aS, z_gO, z_k_r, z_push_s, z_push_n, okS_0, okS_I, okS_R, okS_A, List.getElem?_cons_zero, List.getElem?_cons_succ, List.length_cons, List.length_nil, List.set_cons_zero, List.set_cons_succ, true_and, and_true, z_tI, z_tB, pk_mul, nI_add, cI_cl, cI_ix, arr_at, arr_upd, nar_0, nar_1, nar_b, Nat.reduceAdd, Nat.reduceLT, Nat.reduceMul, pGW_A, pGW_V, pGW_B, pGW_r, pGW_c, pGW_R, pGW_C, pGW_F, pGW_G, pGW_N, pGS_c, pGS_gv, pGS_b, pGS_R, pGS_C, pGS_G, pGS_N, gw_0, gw_1, gw_2, gw_3, gw_4, gw_5, gw_u0, gw_u1, gw_u2, gw_u3, gw_u4, gw_u5, gs_A, gs_V, gs_B, gs_r, gs_c, gs_R, gs_C, gs_F, gs_G, gs_N, sS_full hC, sS_eq, ← hp]
  cases p <;> simp [zb, cI_eq]
theorem s_give {r j s : Nat} (hd : 0 < d) (hr : r < 5) (hj : j < 5) (hs : s < 5) (he : S.c (r * 5 + j) = 5) : z_Ca g d 35 [.ref a, .int (nI r), .int (nI j), .int (nI s)] (gw f a S.w, q) P = P (.inr none, (gw f a (S.give r j s).w, q)) := by
  rw [zn_35]
  simp (disch := omega) only [ze_35_0, ze_35_1, ze_35_2, ze_35_3, ze_35_4, ze_35_7, ze_35_8, ze_35_11, ze_35_12, ze_35_13, ze_35_14, ze_35_15, ze_35_16, ze_35_17, ze_35_18, ze_35_19, ze_35_19_i, ze_35_20, ze_35_23, ze_35_24, ze_35_25, ze_35_28, z_gI, z_gR, z_pF, z_aL, z_aS, z_gO, z_k_r, z_push_s, z_push_n, okS_0, okS_I, okS_R, okS_A, List.getElem?_cons_zero, List.getElem?_cons_succ, List.length_cons, List.length_nil, List.set_cons_zero, List.set_cons_succ, true_and, and_true, z_tI, z_tB, pk_mul, nI_add, cI_cl, cI_ix, arr_at, arr_upd, nar_0, nar_1, nar_b, Nat.reduceAdd, Nat.reduceLT, Nat.reduceMul, pGW_A, pGW_V, pGW_B, pGW_r, pGW_c, pGW_R, pGW_C, pGW_F, pGW_G, pGW_N, pGS_c, pGS_gv, pGS_b, pGS_R, pGS_C, pGS_G, pGS_N, gw_0, gw_1, gw_2, gw_3, gw_4, gw_5, gw_u0, gw_u1, gw_u2, gw_u3, gw_u4, gw_u5, s_put hr hj hs he, hd]
  simp (disch := omega) only [ze_35_0, ze_35_1, ze_35_2, ze_35_3, ze_35_4, ze_35_7, ze_35_8, ze_35_11, ze_35_12, ze_35_13, ze_35_14, ze_35_15, ze_35_16, ze_35_17, ze_35_18, ze_35_19, ze_35_19_i, ze_35_20, ze_35_23, ze_35_24, ze_35_25, ze_35_28, z_gI, z_gR, z_pF, z_aL, z_aS, z_gO, z_k_r, z_push_s, z_push_n, okS_0, okS_I, okS_R, okS_A, List.getElem?_cons_zero, List.getElem?_cons_succ, List.length_cons, List.length_nil, List.set_cons_zero, List.set_cons_succ, true_and, and_true, z_tI, z_tB, pk_mul, nI_add, cI_cl, cI_ix, arr_at, arr_upd, nar_0, nar_1, nar_b, Nat.reduceAdd, Nat.reduceLT, Nat.reduceMul, pGW_A, pGW_V, pGW_B, pGW_r, pGW_c, pGW_R, pGW_C, pGW_F, pGW_G, pGW_N, pGS_c, pGS_gv, pGS_b, pGS_R, pGS_C, pGS_G, pGS_N, gw_0, gw_1, gw_2, gw_3, gw_4, gw_5, gw_u0, gw_u1, gw_u2, gw_u3, gw_u4, gw_u5, gs_A, gs_V, gs_B, gs_r, gs_c, gs_R, gs_C, gs_F, gs_G, gs_N]
  refine congrArg (fun z => P (.inr none, (z, q))) (gw_congr _ _ (fun k hk => rfl) (fun k _ => ?_) (fun i _ => rfl) (fun k hk => rfl) (fun k hk => rfl) ⟨rfl, rfl, rfl, rfl, rfl⟩)
  simp only [pGW_A, pGW_V, pGW_B, pGW_r, pGW_c, pGW_R, pGW_C, pGW_F, pGW_G, pGW_N, pGS_c, pGS_gv, pGS_b, pGS_R, pGS_C, pGS_G, pGS_N, gs_A, gs_V, gs_B, gs_r, gs_c, gs_R, gs_C, gs_F, gs_G, gs_N, GS.forbid, GS.give]
  by_cases e : k = r * 5 + j
  · rw [e, upd_at, if_pos rfl]; rfl
  · rw [upd_ne e, if_neg e]; rfl
end
