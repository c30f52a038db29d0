/-! what is forced: the symbol, how many, by place -/
section
variable {g : z_G} {d : Nat} {f : Nat → Option z_C} {h : z_H} {q : Option Nat × Nat × Nat} {P : z_Res → Prop} {a fo : Nat} {S : GS}
theorem br_fb {r j : Nat} (h : S.rs r j ≠ 0) : S.br r j (S.rs r j) = S.fb r j ∧ S.fs r j ≠ 5 ∧ (∀ s, S.fb r j s = true → S.cd r j s = true) := by
  have er : ∀ s, S.eR r j s = true → S.cd r j s = true := fun s z => by
    unfold GS.eR at z
    simp only [Bool.and_eq_true] at z
    exact z.1
  have ec : ∀ s, S.eC r j s = true → S.cd r j s = true := fun s z => by
    unfold GS.eC at z
    simp only [Bool.and_eq_true] at z
    exact z.1
  unfold GS.fs GS.fb GS.br
  unfold GS.rs at h ⊢
  by_cases e1 : pop (S.cd r j) = 1
  · simp only [e1, if_true]
    exact ⟨trivial, pop_low (by omega), fun s z => z⟩
  · by_cases e2 : low (S.eR r j) = 5
    · by_cases e3 : S.R = S.C ∧ ¬ low (S.eC r j) = 5
      · simp only [e1, e2, e3, if_false, if_true, ne_eq, not_true_eq_false, not_false_eq_true, and_self, Nat.reduceEqDiff]
        exact ⟨trivial, trivial, ec⟩
      · simp only [e1, e2, e3, if_false, ne_eq, not_true_eq_false] at h
    · simp only [e1, e2, if_false, if_true, ne_eq, not_false_eq_true, Nat.reduceEqDiff]
      exact ⟨trivial, trivial, er⟩
theorem cd_lt {r j s : Nat} (h : S.cd r j s = true) : s < S.C := by
  unfold GS.cd at h
  simp only [Bool.and_eq_true, decide_eq_true_eq] at h
  exact h.1.1.1.1
theorem rs_lt (r j : Nat) : S.rs r j < 4 := by
  unfold GS.rs
  split
  · omega
  · split
    · omega
    · split <;> omega
theorem s_sym1 (hF : gw f a S.w fo = some (.inr (2, [.ref a]))) (hC : S.C ≤ 5) {r j : Nat} {p : Nat → Bool} (hp : low p < S.C) : ∀ (k i : Nat), i + k = low p → z_T g d 19 16 [.ref fo, .int (nI r), .int (nI j), .int (sS p), .int (nI i)] [] (gw f a S.w, q) P = P (.inr (some (.int (nI (low p)))), (gw f a S.w, q))
  | 0, i, h => by
    obtain ⟨l1, l2, l3⟩ := low_sp (p := p) (by omega)
    have : i = low p := by omega
    subst this
    rw [ze_19_16]
    simp (disch := omega) only [ze_19_0, ze_19_1, ze_19_2, ze_19_3, ze_19_4, ze_19_5, ze_19_6, ze_19_9, ze_19_12, ze_19_13, ze_19_14, ze_19_18, ze_19_19, ze_19_22, ze_19_25, ze_19_28, ze_19_29, ze_19_31, ze_19_32, ze_19_33, ze_19_34, ze_19_37, ze_19_39, ze_19_40, ze_19_43, ze_19_46, ze_19_47, z_gI, z_gR, z_pF, z_aL, z_aS, z_gO, z_k_r, z_push_s, z_push_n, okS_0, okS_I, okS_R, okS_A, List.getElem?_cons_zero, List.getElem?_cons_succ, List.length_cons, List.length_nil, List.set_cons_zero, List.set_cons_succ, true_and, and_true, z_tI, z_tB, pk_mul, nI_add, cI_cl, cI_ix, arr_at, arr_upd, nar_0, nar_1, nar_b, Nat.reduceAdd, Nat.reduceLT, Nat.reduceMul, cI_lt, cI_eq, if_true, if_false, Nat.lt_irrefl, eq_self, Nat.reduceEqDiff, or_true, true_or, or_false, not_false_eq_true, not_true_eq_false, ce_5, zb_t, zb_f, hF, pGW_A, pGW_V, pGW_B, pGW_r, pGW_c, pGW_R, pGW_C, pGW_F, pGW_G, pGW_N, pGS_c, pGS_gv, pGS_b, pGS_R, pGS_C, pGS_G, pGS_N, gw_0, gw_1, gw_2, gw_3, gw_4, gw_5, gw_u0, gw_u1, gw_u2, gw_u3, gw_u4, gw_u5, gs_A, gs_V, gs_B, gs_r, gs_c, gs_R, gs_C, gs_F, gs_G, gs_N, hp, sS_bit, l2, zb_0, Bool.true_eq_false]
  | k + 1, i, h => by
    obtain ⟨l1, l2, l3⟩ := low_sp (p := p) (by omega)
    have hi : i < S.C := by omega
    rw [ze_19_16]
    simp (disch := omega) only [ze_19_0, ze_19_1, ze_19_2, ze_19_3, ze_19_4, ze_19_5, ze_19_6, ze_19_9, ze_19_12, ze_19_13, ze_19_14, ze_19_18, ze_19_19, ze_19_22, ze_19_25, ze_19_28, ze_19_29, ze_19_31, ze_19_32, ze_19_33, ze_19_34, ze_19_37, ze_19_39, ze_19_40, ze_19_43, ze_19_46, ze_19_47, z_gI, z_gR, z_pF, z_aL, z_aS, z_gO, z_k_r, z_push_s, z_push_n, okS_0, okS_I, okS_R, okS_A, List.getElem?_cons_zero, List.getElem?_cons_succ, List.length_cons, List.length_nil, List.set_cons_zero, List.set_cons_succ, true_and, and_true, z_tI, z_tB, pk_mul, nI_add, cI_cl, cI_ix, arr_at, arr_upd, nar_0, nar_1, nar_b, Nat.reduceAdd, Nat.reduceLT, Nat.reduceMul, cI_lt, cI_eq, if_true, if_false, Nat.lt_irrefl, eq_self, Nat.reduceEqDiff, or_true, true_or, or_false, not_false_eq_true, not_true_eq_false, ce_5, zb_t, zb_f, hF, pGW_A, pGW_V, pGW_B, pGW_r, pGW_c, pGW_R, pGW_C, pGW_F, pGW_G, pGW_N, pGS_c, pGS_gv, pGS_b, pGS_R, pGS_C, pGS_G, pGS_N, gw_0, gw_1, gw_2, gw_3, gw_4, gw_5, gw_u0, gw_u1, gw_u2, gw_u3, gw_u4, gw_u5, gs_A, gs_V, gs_B, gs_r, gs_c, gs_R, gs_C, gs_F, gs_G, gs_N, hi, sS_bit, l3]
    rw [s_sym1 hF hC hp k (i + 1) (by omega)]
theorem s_sym (hF : gw f a S.w fo = some (.inr (2, [.ref a]))) (hc : ∀ k, S.c k ≤ 5) (hC : S.C ≤ 5) (hR : S.R ≤ 5) (hd : 3 < d) {r j : Nat} (hr : r < 5) (hj : j < 5) (hs : S.rs r j ≠ 0) : z_Ca g d 19 [.ref fo, .int (nI r), .int (nI j)] (gw f a S.w, q) P = P (.inr (some (.int (nI (S.fs r j)))), (gw f a S.w, q)) := by
  have hd0 : 0 < d := by omega
  have h4 := rs_lt (S := S) r j
  obtain ⟨b1, b2, b3⟩ := br_fb hs
  have b4 : low (S.fb r j) < S.C := cd_lt (b3 _ (low_sp b2).2.1)
  rw [zn_19]
  simp (disch := omega) only [ze_19_0, ze_19_1, ze_19_2, ze_19_3, ze_19_4, ze_19_5, ze_19_6, ze_19_9, ze_19_12, ze_19_13, ze_19_14, ze_19_18, ze_19_19, ze_19_22, ze_19_25, ze_19_28, ze_19_29, ze_19_31, ze_19_32, ze_19_33, ze_19_34, ze_19_37, ze_19_39, ze_19_40, ze_19_43, ze_19_46, ze_19_47, z_gI, z_gR, z_pF, z_aL, z_aS, z_gO, z_k_r, z_push_s, z_push_n, okS_0, okS_I, okS_R, okS_A, List.getElem?_cons_zero, List.getElem?_cons_succ, List.length_cons, List.length_nil, List.set_cons_zero, List.set_cons_succ, true_and, and_true, z_tI, z_tB, pk_mul, nI_add, cI_cl, cI_ix, arr_at, arr_upd, nar_0, nar_1, nar_b, Nat.reduceAdd, Nat.reduceLT, Nat.reduceMul, cI_lt, cI_eq, if_true, if_false, Nat.lt_irrefl, eq_self, Nat.reduceEqDiff, or_true, true_or, or_false, not_false_eq_true, not_true_eq_false, ce_5, zb_t, zb_f, hF, s_reason1 hF hc hC hR, s_bits hF hc hC hR, hd0, b1]
  rw [s_sym1 hF hC b4 (low (S.fb r j)) 0 (by omega)]
  rfl
/-- a forced cell, by its number -/
def GS.pf (S : GS) (k : Nat) : Bool := decide (k / 5 < S.R) && decide (k % 5 < S.C) && decide (S.rs (k / 5) (k % 5) ≠ 0)
theorem pf_at {r j : Nat} (hj : j < 5) : S.pf (r * 5 + j) = (decide (r < S.R) && decide (j < S.C) && decide (S.rs r j ≠ 0)) := by
  unfold GS.pf
  rw [show (r * 5 + j) / 5 = r by omega, show (r * 5 + j) % 5 = j by omega]
theorem s_fcnt1 (hF : gw f a S.w fo = some (.inr (2, [.ref a]))) (hc : ∀ k, S.c k ≤ 5) (hC : S.C ≤ 5) (hR : S.R ≤ 5) (hd : 3 < d) {r : Nat} (hr : r < S.R) : ∀ (k j n : Nat), j + k = S.C → z_T g d 16 17 [.ref fo, .int (nI n), .int (nI r), .int (nI j)] [] (gw f a S.w, q) P = z_T g d 16 46 [.ref fo, .int (nI (n + ct S.pf (r * 5 + j) k)), .int (nI r), .int (nI S.C)] [] (gw f a S.w, q) P
  | 0, j, n, h => by
    have : j = S.C := by omega
    subst this
    rw [ze_16_17]
    simp (disch := omega) only [ze_16_0, ze_16_1, ze_16_2, ze_16_3, ze_16_4, ze_16_5, ze_16_6, ze_16_9, ze_16_12, ze_16_15, ze_16_16, ze_16_18, ze_16_19, ze_16_22, ze_16_25, ze_16_28, ze_16_29, ze_16_30, ze_16_31, ze_16_34, ze_16_37, ze_16_40, ze_16_43, ze_16_49, ze_16_52, ze_16_53, z_gI, z_gR, z_pF, z_aL, z_aS, z_gO, z_k_r, z_push_s, z_push_n, okS_0, okS_I, okS_R, okS_A, List.getElem?_cons_zero, List.getElem?_cons_succ, List.length_cons, List.length_nil, List.set_cons_zero, List.set_cons_succ, true_and, and_true, z_tI, z_tB, pk_mul, nI_add, cI_cl, cI_ix, arr_at, arr_upd, nar_0, nar_1, nar_b, Nat.reduceAdd, Nat.reduceLT, Nat.reduceMul, cI_lt, cI_eq, if_true, if_false, Nat.lt_irrefl, eq_self, Nat.reduceEqDiff, or_true, true_or, or_false, not_false_eq_true, not_true_eq_false, ce_5, zb_t, zb_f, hF, pGW_A, pGW_V, pGW_B, pGW_r, pGW_c, pGW_R, pGW_C, pGW_F, pGW_G, pGW_N, pGS_c, pGS_gv, pGS_b, pGS_R, pGS_C, pGS_G, pGS_N, gw_0, gw_1, gw_2, gw_3, gw_4, gw_5, gw_u0, gw_u1, gw_u2, gw_u3, gw_u4, gw_u5, gs_A, gs_V, gs_B, gs_r, gs_c, gs_R, gs_C, gs_F, gs_G, gs_N, ct_z, Nat.add_zero]
  | k + 1, j, n, h => by
    have hj : j < S.C := by omega
    have hd0 : 0 < d := by omega
    rw [ze_16_17, ct_s, pf_at (by omega), decide_eq_true hr, decide_eq_true hj]
    have h4 := rs_lt (S := S) r j
    simp (disch := omega) only [ze_16_0, ze_16_1, ze_16_2, ze_16_3, ze_16_4, ze_16_5, ze_16_6, ze_16_9, ze_16_12, ze_16_15, ze_16_16, ze_16_18, ze_16_19, ze_16_22, ze_16_25, ze_16_28, ze_16_29, ze_16_30, ze_16_31, ze_16_34, ze_16_37, ze_16_40, ze_16_43, ze_16_49, ze_16_52, ze_16_53, z_gI, z_gR, z_pF, z_aL, z_aS, z_gO, z_k_r, z_push_s, z_push_n, okS_0, okS_I, okS_R, okS_A, List.getElem?_cons_zero, List.getElem?_cons_succ, List.length_cons, List.length_nil, List.set_cons_zero, List.set_cons_succ, true_and, and_true, z_tI, z_tB, pk_mul, nI_add, cI_cl, cI_ix, arr_at, arr_upd, nar_0, nar_1, nar_b, Nat.reduceAdd, Nat.reduceLT, Nat.reduceMul, cI_lt, cI_eq, if_true, if_false, Nat.lt_irrefl, eq_self, Nat.reduceEqDiff, or_true, true_or, or_false, not_false_eq_true, not_true_eq_false, ce_5, zb_t, zb_f, hF, pGW_A, pGW_V, pGW_B, pGW_r, pGW_c, pGW_R, pGW_C, pGW_F, pGW_G, pGW_N, pGS_c, pGS_gv, pGS_b, pGS_R, pGS_C, pGS_G, pGS_N, gw_0, gw_1, gw_2, gw_3, gw_4, gw_5, gw_u0, gw_u1, gw_u2, gw_u3, gw_u4, gw_u5, gs_A, gs_V, gs_B, gs_r, gs_c, gs_R, gs_C, gs_F, gs_G, gs_N, hj, s_reason1 hF hc hC hR, hd0]
    by_cases e : S.rs r j = 0
    · simp only [e, if_true, ne_eq, not_true_eq_false, decide_false, Bool.and_false]
      rw [s_fcnt1 hF hc hC hR hd hr k (j + 1) n (by omega), Bool.toNat_false, Nat.zero_add]
      rfl
    · simp (disch := omega) only [e, if_false, ne_eq, not_false_eq_true, decide_true, Bool.and_true, ze_16_0, ze_16_1, ze_16_2, ze_16_3, ze_16_4, ze_16_5, ze_16_6, ze_16_9, ze_16_12, ze_16_15, ze_16_16, ze_16_18, ze_16_19, ze_16_22, ze_16_25, ze_16_28, ze_16_29, ze_16_30, ze_16_31, ze_16_34, ze_16_37, ze_16_40, ze_16_43, ze_16_49, ze_16_52, ze_16_53, z_gI, z_gR, z_pF, z_aL, z_aS, z_gO, z_k_r, z_push_s, z_push_n, okS_0, okS_I, okS_R, okS_A, List.getElem?_cons_zero, List.getElem?_cons_succ, List.length_cons, List.length_nil, List.set_cons_zero, List.set_cons_succ, true_and, and_true, z_tI, z_tB, pk_mul, nI_add, cI_cl, cI_ix, arr_at, arr_upd, nar_0, nar_1, nar_b, Nat.reduceAdd, Nat.reduceLT, Nat.reduceMul]
      rw [s_fcnt1 hF hc hC hR hd hr k (j + 1) (n + 1) (by omega), Bool.toNat_true, Nat.add_assoc]
      rfl
theorem ct_zero {p : Nat → Bool} : ∀ k i, (∀ j, i ≤ j → j < i + k → p j = false) → ct p i k = 0
  | 0, _, _ => rfl
  | k + 1, i, h => by rw [ct_s, h i (Nat.le_refl _) (by omega), ct_zero k (i + 1) (fun j h1 h2 => h j (by omega) (by omega))]; rfl
theorem ct_split (p : Nat → Bool) : ∀ m k i, ct p i (m + k) = ct p i m + ct p (i + m) k
  | 0, k, i => by rw [Nat.zero_add, ct_z, Nat.zero_add, Nat.add_zero]
  | m + 1, k, i => by rw [show m + 1 + k = (m + k) + 1 by omega, ct_s, ct_s, ct_split p m k (i + 1), show i + 1 + m = i + (m + 1) by omega]; omega
theorem s_fcnt2 (hF : gw f a S.w fo = some (.inr (2, [.ref a]))) (hc : ∀ k, S.c k ≤ 5) (hC : S.C ≤ 5) (hR : S.R ≤ 5) (hd : 3 < d) : ∀ (k r n : Nat) (v : Value), r + k = S.R → z_T g d 16 4 [.ref fo, .int (nI n), .int (nI r), v] [] (gw f a S.w, q) P = P (.inr (some (.int (nI (n + ct S.pf (r * 5) (25 - r * 5))))), (gw f a S.w, q))
  | 0, r, n, v, h => by
    have : r = S.R := by omega
    subst this
    rw [ze_16_4]
    simp (disch := omega) only [ze_16_0, ze_16_1, ze_16_2, ze_16_3, ze_16_5, ze_16_6, ze_16_9, ze_16_12, ze_16_15, ze_16_16, ze_16_18, ze_16_19, ze_16_22, ze_16_25, ze_16_28, ze_16_29, ze_16_30, ze_16_31, ze_16_34, ze_16_37, ze_16_40, ze_16_43, ze_16_46, ze_16_49, ze_16_52, ze_16_53, z_gI, z_gR, z_pF, z_aL, z_aS, z_gO, z_k_r, z_push_s, z_push_n, okS_0, okS_I, okS_R, okS_A, List.getElem?_cons_zero, List.getElem?_cons_succ, List.length_cons, List.length_nil, List.set_cons_zero, List.set_cons_succ, true_and, and_true, z_tI, z_tB, pk_mul, nI_add, cI_cl, cI_ix, arr_at, arr_upd, nar_0, nar_1, nar_b, Nat.reduceAdd, Nat.reduceLT, Nat.reduceMul, cI_lt, cI_eq, if_true, if_false, Nat.lt_irrefl, eq_self, Nat.reduceEqDiff, or_true, true_or, or_false, not_false_eq_true, not_true_eq_false, ce_5, zb_t, zb_f, hF, pGW_A, pGW_V, pGW_B, pGW_r, pGW_c, pGW_R, pGW_C, pGW_F, pGW_G, pGW_N, pGS_c, pGS_gv, pGS_b, pGS_R, pGS_C, pGS_G, pGS_N, gw_0, gw_1, gw_2, gw_3, gw_4, gw_5, gw_u0, gw_u1, gw_u2, gw_u3, gw_u4, gw_u5, gs_A, gs_V, gs_B, gs_r, gs_c, gs_R, gs_C, gs_F, gs_G, gs_N]
    rw [ct_zero, Nat.add_zero]
    intro j h1 h2
    unfold GS.pf
    rw [decide_eq_false (by omega)]
    rfl
  | k + 1, r, n, v, h => by
    have hr : r < S.R := by omega
    rw [ze_16_4]
    simp (disch := omega) only [ze_16_0, ze_16_1, ze_16_2, ze_16_3, ze_16_5, ze_16_6, ze_16_9, ze_16_12, ze_16_15, ze_16_16, ze_16_18, ze_16_19, ze_16_22, ze_16_25, ze_16_28, ze_16_29, ze_16_30, ze_16_31, ze_16_34, ze_16_37, ze_16_40, ze_16_43, ze_16_46, ze_16_49, ze_16_52, ze_16_53, z_gI, z_gR, z_pF, z_aL, z_aS, z_gO, z_k_r, z_push_s, z_push_n, okS_0, okS_I, okS_R, okS_A, List.getElem?_cons_zero, List.getElem?_cons_succ, List.length_cons, List.length_nil, List.set_cons_zero, List.set_cons_succ, true_and, and_true, z_tI, z_tB, pk_mul, nI_add, cI_cl, cI_ix, arr_at, arr_upd, nar_0, nar_1, nar_b, Nat.reduceAdd, Nat.reduceLT, Nat.reduceMul, cI_lt, cI_eq, if_true, if_false, Nat.lt_irrefl, eq_self, Nat.reduceEqDiff, or_true, true_or, or_false, not_false_eq_true, not_true_eq_false, ce_5, zb_t, zb_f, hF, pGW_A, pGW_V, pGW_B, pGW_r, pGW_c, pGW_R, pGW_C, pGW_F, pGW_G, pGW_N, pGS_c, pGS_gv, pGS_b, pGS_R, pGS_C, pGS_G, pGS_N, gw_0, gw_1, gw_2, gw_3, gw_4, gw_5, gw_u0, gw_u1, gw_u2, gw_u3, gw_u4, gw_u5, gs_A, gs_V, gs_B, gs_r, gs_c, gs_R, gs_C, gs_F, gs_G, gs_N, hr]
    rw [s_fcnt1 hF hc hC hR hd hr S.C 0 n (by omega)]
    simp (disch := omega) only [ze_16_0, ze_16_1, ze_16_2, ze_16_3, ze_16_5, ze_16_6, ze_16_9, ze_16_12, ze_16_15, ze_16_16, ze_16_18, ze_16_19, ze_16_22, ze_16_25, ze_16_28, ze_16_29, ze_16_30, ze_16_31, ze_16_34, ze_16_37, ze_16_40, ze_16_43, ze_16_46, ze_16_49, ze_16_52, ze_16_53, z_gI, z_gR, z_pF, z_aL, z_aS, z_gO, z_k_r, z_push_s, z_push_n, okS_0, okS_I, okS_R, okS_A, List.getElem?_cons_zero, List.getElem?_cons_succ, List.length_cons, List.length_nil, List.set_cons_zero, List.set_cons_succ, true_and, and_true, z_tI, z_tB, pk_mul, nI_add, cI_cl, cI_ix, arr_at, arr_upd, nar_0, nar_1, nar_b, Nat.reduceAdd, Nat.reduceLT, Nat.reduceMul]
    rw [s_fcnt2 hF hc hC hR hd k (r + 1) _ _ (by omega)]
    have e1 : ct S.pf (r * 5) (25 - r * 5) = ct S.pf (r * 5 + 0) S.C + ct S.pf ((r + 1) * 5) (25 - (r + 1) * 5) := by
      rw [show 25 - r * 5 = S.C + ((5 - S.C) + (25 - (r + 1) * 5)) by omega, ct_split, ct_split, ct_zero (5 - S.C), Nat.zero_add]
      · rw [show r * 5 + S.C + (5 - S.C) = (r + 1) * 5 by omega]
        simp only [Nat.add_zero]
      · intro j h1 h2
        unfold GS.pf
        rw [decide_eq_false (p := j % 5 < S.C) (by omega), Bool.and_false, Bool.false_and]
    rw [e1, Nat.add_assoc]
theorem s_fcnt (hF : gw f a S.w fo = some (.inr (2, [.ref a]))) (hc : ∀ k, S.c k ≤ 5) (hC : S.C ≤ 5) (hR : S.R ≤ 5) (hd : 3 < d) : z_Ca g d 16 [.ref fo] (gw f a S.w, q) P = P (.inr (some (.int (nI (ct S.pf 0 25)))), (gw f a S.w, q)) := by
  rw [zn_16]
  simp (disch := omega) only [ze_16_0, ze_16_1, ze_16_2, ze_16_3, ze_16_5, ze_16_6, ze_16_9, ze_16_12, ze_16_15, ze_16_16, ze_16_17, ze_16_18, ze_16_19, ze_16_22, ze_16_25, ze_16_28, ze_16_29, ze_16_30, ze_16_31, ze_16_34, ze_16_37, ze_16_40, ze_16_43, ze_16_46, ze_16_49, ze_16_52, ze_16_53, z_gI, z_gR, z_pF, z_aL, z_aS, z_gO, z_k_r, z_push_s, z_push_n, okS_0, okS_I, okS_R, okS_A, List.getElem?_cons_zero, List.getElem?_cons_succ, List.length_cons, List.length_nil, List.set_cons_zero, List.set_cons_succ, true_and, and_true, z_tI, z_tB, pk_mul, nI_add, cI_cl, cI_ix, arr_at, arr_upd, nar_0, nar_1, nar_b, Nat.reduceAdd, Nat.reduceLT, Nat.reduceMul]
  rw [s_fcnt2 hF hc hC hR hd S.R 0 0 _ (by omega), Nat.zero_add]
theorem s_place1 (hF : gw f a S.w fo = some (.inr (2, [.ref a]))) (hc : ∀ k, S.c k ≤ 5) (hC : S.C ≤ 5) (hR : S.R ≤ 5) (hd : 3 < d) {x y : Int32} {r : Nat} (hr : r < S.R) (hO : ∀ n, z_T g d 17 60 [.ref fo, .int y, .int (x - nI n), .int (nI r), .int (nI S.C)] [] (gw f a S.w, q) P = P (.inr (some (.int (on (kf S.pf x ((r + 1) * 5) (25 - (r + 1) * 5) n)))), (gw f a S.w, q))) : ∀ (k j n : Nat), j + k = S.C → z_T g d 17 18 [.ref fo, .int y, .int (x - nI n), .int (nI r), .int (nI j)] [] (gw f a S.w, q) P = P (.inr (some (.int (on (kf S.pf x (r * 5 + j) (25 - (r * 5 + j)) n)))), (gw f a S.w, q))
  | 0, j, n, h => by
    have : j = S.C := by omega
    subst this
    rw [ze_17_18]
    simp (disch := omega) only [ze_17_0, ze_17_1, ze_17_2, ze_17_3, ze_17_4, ze_17_5, ze_17_6, ze_17_9, ze_17_12, ze_17_15, ze_17_16, ze_17_20, ze_17_21, ze_17_24, ze_17_27, ze_17_30, ze_17_31, ze_17_32, ze_17_34, ze_17_37, ze_17_40, ze_17_41, ze_17_44, ze_17_45, ze_17_46, ze_17_47, ze_17_49, ze_17_50, ze_17_51, ze_17_54, ze_17_57, ze_17_63, ze_17_66, ze_17_67, z_gI, z_gR, z_pF, z_aL, z_aS, z_gO, z_k_r, z_push_s, z_push_n, okS_0, okS_I, okS_R, okS_A, List.getElem?_cons_zero, List.getElem?_cons_succ, List.length_cons, List.length_nil, List.set_cons_zero, List.set_cons_succ, true_and, and_true, z_tI, z_tB, pk_mul, nI_add, cI_cl, cI_ix, arr_at, arr_upd, nar_0, nar_1, nar_b, Nat.reduceAdd, Nat.reduceLT, Nat.reduceMul, cI_lt, cI_eq, if_true, if_false, Nat.lt_irrefl, eq_self, Nat.reduceEqDiff, or_true, true_or, or_false, not_false_eq_true, not_true_eq_false, ce_5, zb_t, zb_f, hF, pGW_A, pGW_V, pGW_B, pGW_r, pGW_c, pGW_R, pGW_C, pGW_F, pGW_G, pGW_N, pGS_c, pGS_gv, pGS_b, pGS_R, pGS_C, pGS_G, pGS_N, gw_0, gw_1, gw_2, gw_3, gw_4, gw_5, gw_u0, gw_u1, gw_u2, gw_u3, gw_u4, gw_u5, gs_A, gs_V, gs_B, gs_r, gs_c, gs_R, gs_C, gs_F, gs_G, gs_N]
    rw [hO, show 25 - (r * 5 + S.C) = (5 - S.C) + (25 - (r + 1) * 5) by omega, kf_skip, show r * 5 + S.C + (5 - S.C) = (r + 1) * 5 by omega]
    intro j h1 h2
    unfold GS.pf
    rw [decide_eq_false (p := j % 5 < S.C) (by omega), Bool.and_false, Bool.false_and]
  | k + 1, j, n, h => by
    have hj : j < S.C := by omega
    have hd0 : 0 < d := by omega
    have h4 := rs_lt (S := S) r j
    have pa : S.pf (r * 5 + j) = decide (S.rs r j ≠ 0) := by
      rw [pf_at (by omega), decide_eq_true hr, decide_eq_true hj]
      rfl
    rw [ze_17_18, show 25 - (r * 5 + j) = (25 - (r * 5 + (j + 1))) + 1 by omega]
    unfold kf
    simp (disch := omega) only [ze_17_0, ze_17_1, ze_17_2, ze_17_3, ze_17_4, ze_17_5, ze_17_6, ze_17_9, ze_17_12, ze_17_15, ze_17_16, ze_17_20, ze_17_21, ze_17_24, ze_17_27, ze_17_30, ze_17_31, ze_17_32, ze_17_34, ze_17_37, ze_17_40, ze_17_41, ze_17_44, ze_17_45, ze_17_46, ze_17_47, ze_17_49, ze_17_50, ze_17_51, ze_17_54, ze_17_57, ze_17_63, ze_17_66, ze_17_67, z_gI, z_gR, z_pF, z_aL, z_aS, z_gO, z_k_r, z_push_s, z_push_n, okS_0, okS_I, okS_R, okS_A, List.getElem?_cons_zero, List.getElem?_cons_succ, List.length_cons, List.length_nil, List.set_cons_zero, List.set_cons_succ, true_and, and_true, z_tI, z_tB, pk_mul, nI_add, cI_cl, cI_ix, arr_at, arr_upd, nar_0, nar_1, nar_b, Nat.reduceAdd, Nat.reduceLT, Nat.reduceMul, cI_lt, cI_eq, if_true, if_false, Nat.lt_irrefl, eq_self, Nat.reduceEqDiff, or_true, true_or, or_false, not_false_eq_true, not_true_eq_false, ce_5, zb_t, zb_f, hF, pGW_A, pGW_V, pGW_B, pGW_r, pGW_c, pGW_R, pGW_C, pGW_F, pGW_G, pGW_N, pGS_c, pGS_gv, pGS_b, pGS_R, pGS_C, pGS_G, pGS_N, gw_0, gw_1, gw_2, gw_3, gw_4, gw_5, gw_u0, gw_u1, gw_u2, gw_u3, gw_u4, gw_u5, gs_A, gs_V, gs_B, gs_r, gs_c, gs_R, gs_C, gs_F, gs_G, gs_N, hj, s_reason1 hF hc hC hR, hd0, pa, sub_nI, sub_nI1]
    by_cases e : S.rs r j = 0
    · simp only [e, if_true, ne_eq, not_true_eq_false, decide_false, Bool.false_eq_true, if_false]
      rw [s_place1 hF hc hC hR hd hr hO k (j + 1) n (by omega)]
      rfl
    · simp only [e, if_false, ne_eq, not_false_eq_true, decide_true, if_true]
      by_cases e2 : x = nI n
      · simp only [e2, if_true, not_true_eq_false, if_false]
        rfl
      · simp only [e2, if_false, not_false_eq_true, if_true]
        rw [s_place1 hF hc hC hR hd hr hO k (j + 1) (n + 1) (by omega)]
        rfl
theorem s_place2 (hF : gw f a S.w fo = some (.inr (2, [.ref a]))) (hc : ∀ k, S.c k ≤ 5) (hC : S.C ≤ 5) (hR : S.R ≤ 5) (hd : 3 < d) {x y : Int32} : ∀ (k r n : Nat) (v : Value), r + k = S.R → z_T g d 17 4 [.ref fo, .int y, .int (x - nI n), .int (nI r), v] [] (gw f a S.w, q) P = P (.inr (some (.int (on (kf S.pf x (r * 5) (25 - r * 5) n)))), (gw f a S.w, q))
  | 0, r, n, v, h => by
    have : r = S.R := by omega
    subst this
    rw [ze_17_4]
    simp (disch := omega) only [ze_17_0, ze_17_1, ze_17_2, ze_17_3, ze_17_5, ze_17_6, ze_17_9, ze_17_12, ze_17_15, ze_17_16, ze_17_20, ze_17_21, ze_17_24, ze_17_27, ze_17_30, ze_17_31, ze_17_32, ze_17_34, ze_17_37, ze_17_40, ze_17_41, ze_17_44, ze_17_45, ze_17_46, ze_17_47, ze_17_49, ze_17_50, ze_17_51, ze_17_54, ze_17_57, ze_17_60, ze_17_63, ze_17_66, ze_17_67, z_gI, z_gR, z_pF, z_aL, z_aS, z_gO, z_k_r, z_push_s, z_push_n, okS_0, okS_I, okS_R, okS_A, List.getElem?_cons_zero, List.getElem?_cons_succ, List.length_cons, List.length_nil, List.set_cons_zero, List.set_cons_succ, true_and, and_true, z_tI, z_tB, pk_mul, nI_add, cI_cl, cI_ix, arr_at, arr_upd, nar_0, nar_1, nar_b, Nat.reduceAdd, Nat.reduceLT, Nat.reduceMul, cI_lt, cI_eq, if_true, if_false, Nat.lt_irrefl, eq_self, Nat.reduceEqDiff, or_true, true_or, or_false, not_false_eq_true, not_true_eq_false, ce_5, zb_t, zb_f, hF, pGW_A, pGW_V, pGW_B, pGW_r, pGW_c, pGW_R, pGW_C, pGW_F, pGW_G, pGW_N, pGS_c, pGS_gv, pGS_b, pGS_R, pGS_C, pGS_G, pGS_N, gw_0, gw_1, gw_2, gw_3, gw_4, gw_5, gw_u0, gw_u1, gw_u2, gw_u3, gw_u4, gw_u5, gs_A, gs_V, gs_B, gs_r, gs_c, gs_R, gs_C, gs_F, gs_G, gs_N]
    rw [kf_none]
    · rfl
    · intro j h1 h2
      unfold GS.pf
      rw [decide_eq_false (by omega)]
      rfl
  | k + 1, r, n, v, h => by
    have hr : r < S.R := by omega
    rw [ze_17_4]
    simp (disch := omega) only [ze_17_0, ze_17_1, ze_17_2, ze_17_3, ze_17_5, ze_17_6, ze_17_9, ze_17_12, ze_17_15, ze_17_16, ze_17_20, ze_17_21, ze_17_24, ze_17_27, ze_17_30, ze_17_31, ze_17_32, ze_17_34, ze_17_37, ze_17_40, ze_17_41, ze_17_44, ze_17_45, ze_17_46, ze_17_47, ze_17_49, ze_17_50, ze_17_51, ze_17_54, ze_17_57, ze_17_60, ze_17_63, ze_17_66, ze_17_67, z_gI, z_gR, z_pF, z_aL, z_aS, z_gO, z_k_r, z_push_s, z_push_n, okS_0, okS_I, okS_R, okS_A, List.getElem?_cons_zero, List.getElem?_cons_succ, List.length_cons, List.length_nil, List.set_cons_zero, List.set_cons_succ, true_and, and_true, z_tI, z_tB, pk_mul, nI_add, cI_cl, cI_ix, arr_at, arr_upd, nar_0, nar_1, nar_b, Nat.reduceAdd, Nat.reduceLT, Nat.reduceMul, cI_lt, cI_eq, if_true, if_false, Nat.lt_irrefl, eq_self, Nat.reduceEqDiff, or_true, true_or, or_false, not_false_eq_true, not_true_eq_false, ce_5, zb_t, zb_f, hF, pGW_A, pGW_V, pGW_B, pGW_r, pGW_c, pGW_R, pGW_C, pGW_F, pGW_G, pGW_N, pGS_c, pGS_gv, pGS_b, pGS_R, pGS_C, pGS_G, pGS_N, gw_0, gw_1, gw_2, gw_3, gw_4, gw_5, gw_u0, gw_u1, gw_u2, gw_u3, gw_u4, gw_u5, gs_A, gs_V, gs_B, gs_r, gs_c, gs_R, gs_C, gs_F, gs_G, gs_N, hr]
    rw [s_place1 hF hc hC hR hd hr _ S.C 0 n (by omega), Nat.add_zero]
    intro n
    simp (disch := omega) only [ze_17_0, ze_17_1, ze_17_2, ze_17_3, ze_17_5, ze_17_6, ze_17_9, ze_17_12, ze_17_15, ze_17_16, ze_17_20, ze_17_21, ze_17_24, ze_17_27, ze_17_30, ze_17_31, ze_17_32, ze_17_34, ze_17_37, ze_17_40, ze_17_41, ze_17_44, ze_17_45, ze_17_46, ze_17_47, ze_17_49, ze_17_50, ze_17_51, ze_17_54, ze_17_57, ze_17_60, ze_17_63, ze_17_66, ze_17_67, z_gI, z_gR, z_pF, z_aL, z_aS, z_gO, z_k_r, z_push_s, z_push_n, okS_0, okS_I, okS_R, okS_A, List.getElem?_cons_zero, List.getElem?_cons_succ, List.length_cons, List.length_nil, List.set_cons_zero, List.set_cons_succ, true_and, and_true, z_tI, z_tB, pk_mul, nI_add, cI_cl, cI_ix, arr_at, arr_upd, nar_0, nar_1, nar_b, Nat.reduceAdd, Nat.reduceLT, Nat.reduceMul]
    rw [s_place2 hF hc hC hR hd k (r + 1) n _ (by omega)]
theorem s_place (hF : gw f a S.w fo = some (.inr (2, [.ref a]))) (hc : ∀ k, S.c k ≤ 5) (hC : S.C ≤ 5) (hR : S.R ≤ 5) (hd : 3 < d) {x : Int32} : z_Ca g d 17 [.ref fo, .int x] (gw f a S.w, q) P = P (.inr (some (.int (on (kf S.pf x 0 25 0)))), (gw f a S.w, q)) := by
  rw [zn_17]
  simp (disch := omega) only [ze_17_0, ze_17_1, ze_17_2, ze_17_3, ze_17_5, ze_17_6, ze_17_9, ze_17_12, ze_17_15, ze_17_16, ze_17_18, ze_17_20, ze_17_21, ze_17_24, ze_17_27, ze_17_30, ze_17_31, ze_17_32, ze_17_34, ze_17_37, ze_17_40, ze_17_41, ze_17_44, ze_17_45, ze_17_46, ze_17_47, ze_17_49, ze_17_50, ze_17_51, ze_17_54, ze_17_57, ze_17_60, ze_17_63, ze_17_66, ze_17_67, z_gI, z_gR, z_pF, z_aL, z_aS, z_gO, z_k_r, z_push_s, z_push_n, okS_0, okS_I, okS_R, okS_A, List.getElem?_cons_zero, List.getElem?_cons_succ, List.length_cons, List.length_nil, List.set_cons_zero, List.set_cons_succ, true_and, and_true, z_tI, z_tB, pk_mul, nI_add, cI_cl, cI_ix, arr_at, arr_upd, nar_0, nar_1, nar_b, Nat.reduceAdd, Nat.reduceLT, Nat.reduceMul]
  have := s_place2 (g := g) (q := q) (P := P) hF hc hC hR hd (x := x) (y := x) S.R 0 0 z_un (by omega)
  rw [sub_nI0] at this
  exact this
end
