/-! a Grid's other methods -/
def GS.take (S : GS) (r j : Nat) : GS := ⟨nu S.c (r * 5 + j) 5, S.gv, S.b, S.R, S.C, S.G, S.N⟩
/-- what a rectangle keeps to -/
def GI (S : GS) : Prop := (1 ≤ S.R) ∧ (S.R ≤ S.C) ∧ (2 ≤ S.C) ∧ (S.C ≤ 5) ∧ (∀ k, S.c k ≤ 5) ∧ (∀ k, S.c k ≠ 5 → S.c k < S.C) ∧ (∀ r j, r < 5 → j < 5 → S.R ≤ r ∨ S.C ≤ j → S.c (r * 5 + j) = 5) ∧ (∀ r j j', r < 5 → j < 5 → j' < 5 → S.c (r * 5 + j) = S.c (r * 5 + j') → S.c (r * 5 + j) ≠ 5 → j = j') ∧ (∀ r r' j, r < 5 → r' < 5 → j < 5 → S.c (r * 5 + j) = S.c (r' * 5 + j) → S.c (r * 5 + j) ≠ 5 → r = r')
theorem GI.R1 {S : GS} (h : GI S) : 1 ≤ S.R := h.1
theorem GI.RC {S : GS} (h : GI S) : S.R ≤ S.C := h.2.1
theorem GI.C2 {S : GS} (h : GI S) : 2 ≤ S.C := h.2.2.1
theorem GI.C5 {S : GS} (h : GI S) : S.C ≤ 5 := h.2.2.2.1
theorem GI.c5 {S : GS} (h : GI S) : ∀ k, S.c k ≤ 5 := h.2.2.2.2.1
theorem GI.sy {S : GS} (h : GI S) : ∀ k, S.c k ≠ 5 → S.c k < S.C := h.2.2.2.2.2.1
theorem GI.out {S : GS} (h : GI S) : ∀ r j, r < 5 → j < 5 → S.R ≤ r ∨ S.C ≤ j → S.c (r * 5 + j) = 5 := h.2.2.2.2.2.2.1
theorem GI.row {S : GS} (h : GI S) : ∀ r j j', r < 5 → j < 5 → j' < 5 → S.c (r * 5 + j) = S.c (r * 5 + j') → S.c (r * 5 + j) ≠ 5 → j = j' := h.2.2.2.2.2.2.2.1
theorem GI.col {S : GS} (h : GI S) : ∀ r r' j, r < 5 → r' < 5 → j < 5 → S.c (r * 5 + j) = S.c (r' * 5 + j) → S.c (r * 5 + j) ≠ 5 → r = r' := h.2.2.2.2.2.2.2.2
theorem nF_congr {c c' : Nat → Nat} : ∀ n, (∀ k, k < n → c k = c' k) → nF c n = nF c' n
  | 0, _ => rfl
  | n + 1, h => by
    unfold nF
    rw [nF_congr n (fun k hk => h k (by omega)), h n (by omega)]
theorem gw_cc (f : Nat → Option z_C) (a : Nat) {S S' : GS} (h1 : ∀ k, k < 25 → S.c k = S'.c k) (h2 : ∀ k, k < 25 → S.gv k = S'.gv k) (h3 : ∀ k, k < 25 → ∀ s, s < 5 → S.b k s = S'.b k s) (hR : S.R = S'.R) (hC : S.C = S'.C) (hG : S.G = S'.G) (hN : S.N = S'.N) : gw f a S.w = gw f a S'.w := by
  refine gw_congr f a (fun k hk => ?_) (fun k hk => ?_) (fun k hk => ?_) (fun k hk => ?_) (fun k hk => ?_) ⟨?_, ?_, ?_, ?_, ?_⟩
  · exact congrArg ce (h1 k hk)
  · exact congrArg zb (h2 k hk)
  · exact sS_congr (h3 k hk)
  · refine sS_congr fun s hs => ?_
    unfold rU
    rw [h1 _ (by omega), h1 _ (by omega), h1 _ (by omega), h1 _ (by omega), h1 _ (by omega)]
  · refine sS_congr fun s hs => ?_
    unfold cU
    rw [h1 _ (by omega), h1 _ (by omega), h1 _ (by omega), h1 _ (by omega), h1 _ (by omega)]
  · exact congrArg nI hR
  · exact congrArg nI hC
  · exact congrArg nI (nF_congr 25 h1)
  · exact congrArg nI hG
  · exact congrArg nI hN
section
variable {g : z_G} {d : Nat} {f : Nat → Option z_C} {q : Option Nat × Nat × Nat} {P : z_Res → Prop} {a : Nat} {S : GS}
theorem s_take {r j : Nat} (hr : r < 5) (hj : j < 5) (hs : S.c (r * 5 + j) < 5) (h1 : ∀ i, i < 5 → S.c (r * 5 + i) = S.c (r * 5 + j) → i = j) (h2 : ∀ i, i < 5 → S.c (i * 5 + j) = S.c (r * 5 + j) → i = r) : z_Ca g d 30 [.ref a, .int (nI r), .int (nI j)] (gw f a S.w, q) P = P (.inr none, (gw f a (S.take r j).w, q)) := by
  have es : ce (S.c (r * 5 + j)) = nI (S.c (r * 5 + j)) := ce_lt hs
  rw [zn_30]
  simp (disch := omega) only [ze_30_0, ze_30_1, ze_30_4, ze_30_5, ze_30_6, ze_30_7, ze_30_8, ze_30_9, ze_30_10, ze_30_11, ze_30_12, ze_30_15, ze_30_16, ze_30_17, ze_30_18, ze_30_19, ze_30_20, ze_30_21, ze_30_22, ze_30_23, ze_30_26, ze_30_27, ze_30_28, ze_30_29, ze_30_30, ze_30_31, ze_30_32, ze_30_33, ze_30_34, ze_30_35, ze_30_36, ze_30_37, ze_30_40, ze_30_41, ze_30_42, ze_30_43, ze_30_44, ze_30_45, ze_30_46, ze_30_47, ze_30_48, ze_30_49, ze_30_50, ze_30_51, ze_30_51_i, ze_30_52, ze_30_55, ze_30_56, ze_30_57, ze_30_60, z_gI, z_gR, z_pF, z_aL, z_aS, z_gO, z_k_r, z_push_s, z_push_n, okS_0, okS_I, okS_R, okS_A, List.getElem?_cons_zero, List.getElem?_cons_succ, List.length_cons, List.length_nil, List.set_cons_zero, List.set_cons_succ, true_and, and_true, z_tI, z_tB, pk_mul, nI_add, cI_cl, cI_ix, arr_at, arr_upd, nar_0, nar_1, nar_b, Nat.reduceAdd, Nat.reduceLT, Nat.reduceMul, pGW_A, pGW_V, pGW_B, pGW_r, pGW_c, pGW_R, pGW_C, pGW_F, pGW_G, pGW_N, pGS_c, pGS_gv, pGS_b, pGS_R, pGS_C, pGS_G, pGS_N, gw_0, gw_1, gw_2, gw_3, gw_4, gw_5, gw_u0, gw_u1, gw_u2, gw_u3, gw_u4, gw_u5, gs_A, gs_V, gs_B, gs_r, gs_c, gs_R, gs_C, gs_F, gs_G, gs_N, es]
  refine congrArg (fun z => P (.inr none, (z, q))) (gw_congr _ _ (fun k hk => ?_) (fun k _ => rfl) (fun k _ => rfl) (fun k hk => ?_) (fun k hk => ?_) ⟨rfl, rfl, ?_, rfl, rfl⟩)
  · simp only [pGW_A, pGW_V, pGW_B, pGW_r, pGW_c, pGW_R, pGW_C, pGW_F, pGW_G, pGW_N, pGS_c, pGS_gv, pGS_b, pGS_R, pGS_C, pGS_G, pGS_N, gs_A, gs_V, gs_B, gs_r, gs_c, gs_R, gs_C, gs_F, gs_G, gs_N, GS.put, GS.take]
    rw [← ce_5, upd_zc]
  · simp only [pGW_A, pGW_V, pGW_B, pGW_r, pGW_c, pGW_R, pGW_C, pGW_F, pGW_G, pGW_N, pGS_c, pGS_gv, pGS_b, pGS_R, pGS_C, pGS_G, pGS_N, gs_A, gs_V, gs_B, gs_r, gs_c, gs_R, gs_C, gs_F, gs_G, gs_N, GS.put, GS.take]
    by_cases e : k = r
    · subst e
      rw [upd_at, sS_one hs, sS_andn]
      refine sS_congr fun t ht => ?_
      rw [rU_take hj h1 ht, if_pos rfl]
    · rw [upd_ne e]
      refine sS_congr fun t ht => ?_
      rw [rU_take hj h1 ht, if_neg e]
  · simp only [pGW_A, pGW_V, pGW_B, pGW_r, pGW_c, pGW_R, pGW_C, pGW_F, pGW_G, pGW_N, pGS_c, pGS_gv, pGS_b, pGS_R, pGS_C, pGS_G, pGS_N, gs_A, gs_V, gs_B, gs_r, gs_c, gs_R, gs_C, gs_F, gs_G, gs_N, GS.put, GS.take]
    by_cases e : k = j
    · subst e
      rw [upd_at, sS_one hs, sS_andn]
      refine sS_congr fun t ht => ?_
      rw [cU_take hr hj h2 ht, if_pos rfl]
    · rw [upd_ne e]
      refine sS_congr fun t ht => ?_
      rw [cU_take hr hj h2 ht, if_neg e]
  · simp only [pGW_A, pGW_V, pGW_B, pGW_r, pGW_c, pGW_R, pGW_C, pGW_F, pGW_G, pGW_N, pGS_c, pGS_gv, pGS_b, pGS_R, pGS_C, pGS_G, pGS_N, gs_A, gs_V, gs_B, gs_r, gs_c, gs_R, gs_C, gs_F, gs_G, gs_N, GS.put, GS.take]
    have := nF_take S.c (k := r * 5 + j) (by omega) 25 (by omega)
    rw [cI_sub (by omega)]
    congr 1
    omega
theorem s_forb (hb : ∀ k, k < 25 → True) {k s : Nat} (hk : k < 25) (hs : s < 5) : z_Ca g d 32 [.ref a, .int (nI k), .int (nI s)] (gw f a S.w, q) P = P (.inr none, (gw f a (S.forbid k s).w, q)) := by
  rw [zn_32]
  simp (disch := omega) only [ze_32_0, ze_32_1, ze_32_4, ze_32_5, ze_32_6, ze_32_7, ze_32_8, ze_32_9, ze_32_10, ze_32_11, ze_32_12, ze_32_13, ze_32_13_i, ze_32_14, ze_32_17, ze_32_18, ze_32_19, ze_32_22, z_gI, z_gR, z_pF, z_aL, z_aS, z_gO, z_k_r, z_push_s, z_push_n, okS_0, okS_I, okS_R, okS_A, List.getElem?_cons_zero, List.getElem?_cons_succ, List.length_cons, List.length_nil, List.set_cons_zero, List.set_cons_succ, true_and, and_true, z_tI, z_tB, pk_mul, nI_add, cI_cl, cI_ix, arr_at, arr_upd, nar_0, nar_1, nar_b, Nat.reduceAdd, Nat.reduceLT, Nat.reduceMul, pGW_A, pGW_V, pGW_B, pGW_r, pGW_c, pGW_R, pGW_C, pGW_F, pGW_G, pGW_N, pGS_c, pGS_gv, pGS_b, pGS_R, pGS_C, pGS_G, pGS_N, gw_0, gw_1, gw_2, gw_3, gw_4, gw_5, gw_u0, gw_u1, gw_u2, gw_u3, gw_u4, gw_u5, gs_A, gs_V, gs_B, gs_r, gs_c, gs_R, gs_C, gs_F, gs_G, gs_N]
  refine congrArg (fun z => P (.inr none, (z, q))) (gw_congr _ _ (fun k hk => rfl) (fun k _ => rfl) (fun i _ => ?_) (fun k hk => rfl) (fun k hk => rfl) ⟨rfl, rfl, rfl, rfl, rfl⟩)
  simp only [pGW_A, pGW_V, pGW_B, pGW_r, pGW_c, pGW_R, pGW_C, pGW_F, pGW_G, pGW_N, pGS_c, pGS_gv, pGS_b, pGS_R, pGS_C, pGS_G, pGS_N, gs_A, gs_V, gs_B, gs_r, gs_c, gs_R, gs_C, gs_F, gs_G, gs_N, GS.forbid, GS.give]
  by_cases e : i = k
  · subst e
    rw [upd_at, sS_one hs, sS_or]
    exact sS_congr fun t _ => (if_pos rfl).symm
  · rw [upd_ne e]
    exact sS_congr fun t _ => (if_neg e).symm
theorem s_isf {k s : Nat} (hk : k < 25) (hs : s < 5) : z_Ca g d 33 [.ref a, .int (nI k), .int (nI s)] (gw f a S.w, q) P = P (.inr (some (.int (zb (S.b k s)))), (gw f a S.w, q)) := by
  rw [zn_33]
  simp (disch := omega) only [ze_33_0, ze_33_1, ze_33_4, ze_33_5, ze_33_6, ze_33_7, ze_33_8, ze_33_9, ze_33_10, ze_33_13, ze_33_14, ze_33_17, ze_33_18, z_gI, z_gR, z_pF, z_aL, z_aS, z_gO, z_k_r, z_push_s, z_push_n, okS_0, okS_I, okS_R, okS_A, List.getElem?_cons_zero, List.getElem?_cons_succ, List.length_cons, List.length_nil, List.set_cons_zero, List.set_cons_succ, true_and, and_true, z_tI, z_tB, pk_mul, nI_add, cI_cl, cI_ix, arr_at, arr_upd, nar_0, nar_1, nar_b, Nat.reduceAdd, Nat.reduceLT, Nat.reduceMul, pGW_A, pGW_V, pGW_B, pGW_r, pGW_c, pGW_R, pGW_C, pGW_F, pGW_G, pGW_N, pGS_c, pGS_gv, pGS_b, pGS_R, pGS_C, pGS_G, pGS_N, gw_0, gw_1, gw_2, gw_3, gw_4, gw_5, gw_u0, gw_u1, gw_u2, gw_u3, gw_u4, gw_u5, gs_A, gs_V, gs_B, gs_r, gs_c, gs_R, gs_C, gs_F, gs_G, gs_N, sS_bit, zb_0]
  cases S.b k s <;> simp [zb, cI_eq]
def GS.full (S : GS) (r : Nat) : Bool := decide (∀ j, j < S.C → S.c (r * 5 + j) ≠ 5)
theorem s_fullraw {r : Nat} {p : Bool} (hp : p = true ↔ ∀ s, s < 5 → rU S.c r s = decide (s < S.C)) (hC : S.C ≤ 5) (hr : r < 5) : z_Ca g d 35 [.ref a, .int (nI r)] (gw f a S.w, q) P = P (.inr (some (.int (zb p))), (gw f a S.w, q)) := by
  rw [zn_35]
  simp (disch := omega) only [ze_35_0, ze_35_1, ze_35_4, ze_35_5, ze_35_6, ze_35_7, ze_35_8, ze_35_11, ze_35_12, ze_35_13, ze_35_14, ze_35_17, ze_35_18, ze_35_21, ze_35_22, z_gI, z_gR, z_pF, z_aL, z_aS, z_gO, z_k_r, z_push_s, z_push_n, okS_0, okS_I, okS_R, okS_A, List.getElem?_cons_zero, List.getElem?_cons_succ, List.length_cons, List.length_nil, List.set_cons_zero, List.set_cons_succ, true_and, and_true, z_tI, z_tB, pk_mul, nI_add, cI_cl, cI_ix, arr_at, arr_upd, nar_0, nar_1, nar_b, Nat.reduceAdd, Nat.reduceLT, Nat.reduceMul, pGW_A, pGW_V, pGW_B, pGW_r, pGW_c, pGW_R, pGW_C, pGW_F, pGW_G, pGW_N, pGS_c, pGS_gv, pGS_b, pGS_R, pGS_C, pGS_G, pGS_N, gw_0, gw_1, gw_2, gw_3, gw_4, gw_5, gw_u0, gw_u1, gw_u2, gw_u3, gw_u4, gw_u5, gs_A, gs_V, gs_B, gs_r, gs_c, gs_R, gs_C, gs_F, gs_G, gs_N, sS_full hC, sS_eq, ← hp]
  cases p <;> simp [zb, cI_eq]
theorem s_give {r j s : Nat} (hd : 0 < d) (hr : r < 5) (hj : j < 5) (hs : s < 5) (he : S.c (r * 5 + j) = 5) : z_Ca g d 31 [.ref a, .int (nI r), .int (nI j), .int (nI s)] (gw f a S.w, q) P = P (.inr none, (gw f a (S.give r j s).w, q)) := by
  rw [zn_31]
  simp (disch := omega) only [ze_31_0, ze_31_1, ze_31_2, ze_31_3, ze_31_4, ze_31_7, ze_31_8, ze_31_11, ze_31_12, ze_31_13, ze_31_14, ze_31_15, ze_31_16, ze_31_17, ze_31_18, ze_31_19, ze_31_19_i, ze_31_20, ze_31_23, ze_31_24, ze_31_25, ze_31_28, z_gI, z_gR, z_pF, z_aL, z_aS, z_gO, z_k_r, z_push_s, z_push_n, okS_0, okS_I, okS_R, okS_A, List.getElem?_cons_zero, List.getElem?_cons_succ, List.length_cons, List.length_nil, List.set_cons_zero, List.set_cons_succ, true_and, and_true, z_tI, z_tB, pk_mul, nI_add, cI_cl, cI_ix, arr_at, arr_upd, nar_0, nar_1, nar_b, Nat.reduceAdd, Nat.reduceLT, Nat.reduceMul, pGW_A, pGW_V, pGW_B, pGW_r, pGW_c, pGW_R, pGW_C, pGW_F, pGW_G, pGW_N, pGS_c, pGS_gv, pGS_b, pGS_R, pGS_C, pGS_G, pGS_N, gw_0, gw_1, gw_2, gw_3, gw_4, gw_5, gw_u0, gw_u1, gw_u2, gw_u3, gw_u4, gw_u5, s_put hr hj hs he, hd]
  simp (disch := omega) only [ze_31_0, ze_31_1, ze_31_2, ze_31_3, ze_31_4, ze_31_7, ze_31_8, ze_31_11, ze_31_12, ze_31_13, ze_31_14, ze_31_15, ze_31_16, ze_31_17, ze_31_18, ze_31_19, ze_31_19_i, ze_31_20, ze_31_23, ze_31_24, ze_31_25, ze_31_28, z_gI, z_gR, z_pF, z_aL, z_aS, z_gO, z_k_r, z_push_s, z_push_n, okS_0, okS_I, okS_R, okS_A, List.getElem?_cons_zero, List.getElem?_cons_succ, List.length_cons, List.length_nil, List.set_cons_zero, List.set_cons_succ, true_and, and_true, z_tI, z_tB, pk_mul, nI_add, cI_cl, cI_ix, arr_at, arr_upd, nar_0, nar_1, nar_b, Nat.reduceAdd, Nat.reduceLT, Nat.reduceMul, pGW_A, pGW_V, pGW_B, pGW_r, pGW_c, pGW_R, pGW_C, pGW_F, pGW_G, pGW_N, pGS_c, pGS_gv, pGS_b, pGS_R, pGS_C, pGS_G, pGS_N, gw_0, gw_1, gw_2, gw_3, gw_4, gw_5, gw_u0, gw_u1, gw_u2, gw_u3, gw_u4, gw_u5, gs_A, gs_V, gs_B, gs_r, gs_c, gs_R, gs_C, gs_F, gs_G, gs_N]
  refine congrArg (fun z => P (.inr none, (z, q))) (gw_congr _ _ (fun k hk => rfl) (fun k _ => ?_) (fun i _ => rfl) (fun k hk => rfl) (fun k hk => rfl) ⟨rfl, rfl, rfl, rfl, rfl⟩)
  simp only [pGW_A, pGW_V, pGW_B, pGW_r, pGW_c, pGW_R, pGW_C, pGW_F, pGW_G, pGW_N, pGS_c, pGS_gv, pGS_b, pGS_R, pGS_C, pGS_G, pGS_N, gs_A, gs_V, gs_B, gs_r, gs_c, gs_R, gs_C, gs_F, gs_G, gs_N, GS.forbid, GS.give]
  by_cases e : k = r * 5 + j
  · rw [e, upd_at, if_pos rfl]; rfl
  · rw [upd_ne e, if_neg e]; rfl
end
