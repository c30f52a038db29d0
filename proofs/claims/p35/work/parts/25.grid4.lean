/-! a Grid's dead cells and uses; a new one -/
section
variable {g : z_G} {d : Nat} {f : Nat → Option z_C} {q : Option Nat × Nat × Nat} {P : z_Res → Prop} {a : Nat} {S : GS}
def GS.dead (S : GS) (r j : Nat) : Bool := decide (S.c (r * 5 + j) = 5) && !(S.cd r j 0 || S.cd r j 1 || S.cd r j 2 || S.cd r j 3 || S.cd r j 4)
theorem dead_iff {r j : Nat} (h : S.c (r * 5 + j) = 5) : (sS (S.cd r j) = nI 0) = (S.dead r j = true) := by
  rw [sS_eq0]
  refine propext ⟨fun z => ?_, fun z s hs => ?_⟩
  · unfold GS.dead
    rw [z 0 (by omega), z 1 (by omega), z 2 (by omega), z 3 (by omega), z 4 (by omega)]
    simp [h]
  · unfold GS.dead at z
    simp only [Bool.and_eq_true, Bool.not_eq_true', Bool.or_eq_false_iff] at z
    obtain ⟨z0, ⟨⟨⟨z1, z2⟩, z3⟩, z4⟩, z5⟩ := z
    rcases five hs with rfl | rfl | rfl | rfl | rfl <;> assumption
theorem s_dead1 (hc : ∀ k, S.c k ≤ 5) (hd : 0 < d) (hR : S.R ≤ 5) (hC : S.C ≤ 5) {r : Nat} (hr : r < S.R) : ∀ (k j n : Nat), j + k = S.C → z_T g d 37 14 [.ref a, .int (nI n), .int (nI r), .int (nI j)] [] (gw f a S.w, q) P = z_T g d 37 54 [.ref a, .int (nI (n + ct (S.dead r) j k)), .int (nI r), .int (nI S.C)] [] (gw f a S.w, q) P
  | 0, j, n, h => by
    have : j = S.C := by omega
    subst this
    rw [ze_37_14]
    simp (disch := omega) only [ze_37_0, ze_37_1, ze_37_2, ze_37_3, ze_37_4, ze_37_5, ze_37_6, ze_37_9, ze_37_12, ze_37_13, ze_37_15, ze_37_16, ze_37_19, ze_37_22, ze_37_23, ze_37_26, ze_37_27, ze_37_28, ze_37_29, ze_37_30, ze_37_31, ze_37_32, ze_37_33, ze_37_36, ze_37_37, ze_37_38, ze_37_39, ze_37_42, ze_37_45, ze_37_48, ze_37_51, ze_37_57, ze_37_60, ze_37_61, z_gI, z_gR, z_pF, z_aL, z_aS, z_gO, z_k_r, z_push_s, z_push_n, okS_0, okS_I, okS_R, okS_A, List.getElem?_cons_zero, List.getElem?_cons_succ, List.length_cons, List.length_nil, List.set_cons_zero, List.set_cons_succ, true_and, and_true, z_tI, z_tB, pk_mul, nI_add, cI_cl, cI_ix, arr_at, arr_upd, nar_0, nar_1, nar_b, Nat.reduceAdd, Nat.reduceLT, Nat.reduceMul, cI_lt, cI_eq, if_true, if_false, Nat.lt_irrefl, eq_self, Nat.reduceEqDiff, or_true, true_or, or_false, not_false_eq_true, not_true_eq_false, ce_5, pGW_A, pGW_V, pGW_B, pGW_r, pGW_c, pGW_R, pGW_C, pGW_F, pGW_G, pGW_N, pGS_c, pGS_gv, pGS_b, pGS_R, pGS_C, pGS_G, pGS_N, gw_0, gw_1, gw_2, gw_3, gw_4, gw_5, gw_u0, gw_u1, gw_u2, gw_u3, gw_u4, gw_u5, gs_A, gs_V, gs_B, gs_r, gs_c, gs_R, gs_C, gs_F, gs_G, gs_N, ct_z, Nat.add_zero]
  | k + 1, j, n, h => by
    have hj : j < S.C := by omega
    have e5 := ce_em (hc (r * 5 + j))
    rw [ze_37_14, ct_s]
    simp (disch := omega) only [ze_37_0, ze_37_1, ze_37_2, ze_37_3, ze_37_4, ze_37_5, ze_37_6, ze_37_9, ze_37_12, ze_37_13, ze_37_15, ze_37_16, ze_37_19, ze_37_22, ze_37_23, ze_37_26, ze_37_27, ze_37_28, ze_37_29, ze_37_30, ze_37_31, ze_37_32, ze_37_33, ze_37_36, ze_37_37, ze_37_38, ze_37_39, ze_37_42, ze_37_45, ze_37_48, ze_37_51, ze_37_57, ze_37_60, ze_37_61, z_gI, z_gR, z_pF, z_aL, z_aS, z_gO, z_k_r, z_push_s, z_push_n, okS_0, okS_I, okS_R, okS_A, List.getElem?_cons_zero, List.getElem?_cons_succ, List.length_cons, List.length_nil, List.set_cons_zero, List.set_cons_succ, true_and, and_true, z_tI, z_tB, pk_mul, nI_add, cI_cl, cI_ix, arr_at, arr_upd, nar_0, nar_1, nar_b, Nat.reduceAdd, Nat.reduceLT, Nat.reduceMul, cI_lt, cI_eq, if_true, if_false, Nat.lt_irrefl, eq_self, Nat.reduceEqDiff, or_true, true_or, or_false, not_false_eq_true, not_true_eq_false, ce_5, pGW_A, pGW_V, pGW_B, pGW_r, pGW_c, pGW_R, pGW_C, pGW_F, pGW_G, pGW_N, pGS_c, pGS_gv, pGS_b, pGS_R, pGS_C, pGS_G, pGS_N, gw_0, gw_1, gw_2, gw_3, gw_4, gw_5, gw_u0, gw_u1, gw_u2, gw_u3, gw_u4, gw_u5, gs_A, gs_V, gs_B, gs_r, gs_c, gs_R, gs_C, gs_F, gs_G, gs_N, hj, e5, s_cand hc hC, hd]
    by_cases e : S.c (r * 5 + j) = 5
    · simp only [dead_iff e, e, if_true]
      cases e2 : S.dead r j
      · simp (disch := omega) only [ze_37_0, ze_37_1, ze_37_2, ze_37_3, ze_37_4, ze_37_5, ze_37_6, ze_37_9, ze_37_12, ze_37_13, ze_37_15, ze_37_16, ze_37_19, ze_37_22, ze_37_23, ze_37_26, ze_37_27, ze_37_28, ze_37_29, ze_37_30, ze_37_31, ze_37_32, ze_37_33, ze_37_36, ze_37_37, ze_37_38, ze_37_39, ze_37_42, ze_37_45, ze_37_48, ze_37_51, ze_37_57, ze_37_60, ze_37_61, z_gI, z_gR, z_pF, z_aL, z_aS, z_gO, z_k_r, z_push_s, z_push_n, okS_0, okS_I, okS_R, okS_A, List.getElem?_cons_zero, List.getElem?_cons_succ, List.length_cons, List.length_nil, List.set_cons_zero, List.set_cons_succ, true_and, and_true, z_tI, z_tB, pk_mul, nI_add, cI_cl, cI_ix, arr_at, arr_upd, nar_0, nar_1, nar_b, Nat.reduceAdd, Nat.reduceLT, Nat.reduceMul, if_true, if_false, Bool.false_eq_true, not_true_eq_false, not_false_eq_true]
        rw [s_dead1 hc hd hR hC hr k (j + 1) n (by omega), Bool.toNat_false, Nat.zero_add]
      · simp (disch := omega) only [ze_37_0, ze_37_1, ze_37_2, ze_37_3, ze_37_4, ze_37_5, ze_37_6, ze_37_9, ze_37_12, ze_37_13, ze_37_15, ze_37_16, ze_37_19, ze_37_22, ze_37_23, ze_37_26, ze_37_27, ze_37_28, ze_37_29, ze_37_30, ze_37_31, ze_37_32, ze_37_33, ze_37_36, ze_37_37, ze_37_38, ze_37_39, ze_37_42, ze_37_45, ze_37_48, ze_37_51, ze_37_57, ze_37_60, ze_37_61, z_gI, z_gR, z_pF, z_aL, z_aS, z_gO, z_k_r, z_push_s, z_push_n, okS_0, okS_I, okS_R, okS_A, List.getElem?_cons_zero, List.getElem?_cons_succ, List.length_cons, List.length_nil, List.set_cons_zero, List.set_cons_succ, true_and, and_true, z_tI, z_tB, pk_mul, nI_add, cI_cl, cI_ix, arr_at, arr_upd, nar_0, nar_1, nar_b, Nat.reduceAdd, Nat.reduceLT, Nat.reduceMul, if_true, if_false, not_true_eq_false, not_false_eq_true]
        rw [s_dead1 hc hd hR hC hr k (j + 1) (n + 1) (by omega), Bool.toNat_true, Nat.add_assoc]
    · have e2 : S.dead r j = false := by unfold GS.dead; simp [e]
      simp (disch := omega) only [ze_37_0, ze_37_1, ze_37_2, ze_37_3, ze_37_4, ze_37_5, ze_37_6, ze_37_9, ze_37_12, ze_37_13, ze_37_15, ze_37_16, ze_37_19, ze_37_22, ze_37_23, ze_37_26, ze_37_27, ze_37_28, ze_37_29, ze_37_30, ze_37_31, ze_37_32, ze_37_33, ze_37_36, ze_37_37, ze_37_38, ze_37_39, ze_37_42, ze_37_45, ze_37_48, ze_37_51, ze_37_57, ze_37_60, ze_37_61, z_gI, z_gR, z_pF, z_aL, z_aS, z_gO, z_k_r, z_push_s, z_push_n, okS_0, okS_I, okS_R, okS_A, List.getElem?_cons_zero, List.getElem?_cons_succ, List.length_cons, List.length_nil, List.set_cons_zero, List.set_cons_succ, true_and, and_true, z_tI, z_tB, pk_mul, nI_add, cI_cl, cI_ix, arr_at, arr_upd, nar_0, nar_1, nar_b, Nat.reduceAdd, Nat.reduceLT, Nat.reduceMul, e, if_true, if_false, not_true_eq_false, not_false_eq_true]
      rw [s_dead1 hc hd hR hC hr k (j + 1) n (by omega), e2, Bool.toNat_false, Nat.zero_add]
theorem s_dead2 (hc : ∀ k, S.c k ≤ 5) (hd : 0 < d) (hR : S.R ≤ 5) (hC : S.C ≤ 5) : ∀ (k r n : Nat) (v : Value), r + k = S.R → z_T g d 37 4 [.ref a, .int (nI n), .int (nI r), v] [] (gw f a S.w, q) P = P (.inr (some (.int (nI (n + sm (fun r => ct (S.dead r) 0 S.C) r k)))), (gw f a S.w, q))
  | 0, r, n, v, h => by
    have : r = S.R := by omega
    subst this
    rw [ze_37_4]
    simp (disch := omega) only [ze_37_0, ze_37_1, ze_37_2, ze_37_3, ze_37_5, ze_37_6, ze_37_9, ze_37_12, ze_37_13, ze_37_15, ze_37_16, ze_37_19, ze_37_22, ze_37_23, ze_37_26, ze_37_27, ze_37_28, ze_37_29, ze_37_30, ze_37_31, ze_37_32, ze_37_33, ze_37_36, ze_37_37, ze_37_38, ze_37_39, ze_37_42, ze_37_45, ze_37_48, ze_37_51, ze_37_54, ze_37_57, ze_37_60, ze_37_61, z_gI, z_gR, z_pF, z_aL, z_aS, z_gO, z_k_r, z_push_s, z_push_n, okS_0, okS_I, okS_R, okS_A, List.getElem?_cons_zero, List.getElem?_cons_succ, List.length_cons, List.length_nil, List.set_cons_zero, List.set_cons_succ, true_and, and_true, z_tI, z_tB, pk_mul, nI_add, cI_cl, cI_ix, arr_at, arr_upd, nar_0, nar_1, nar_b, Nat.reduceAdd, Nat.reduceLT, Nat.reduceMul, cI_lt, cI_eq, if_true, if_false, Nat.lt_irrefl, eq_self, Nat.reduceEqDiff, or_true, true_or, or_false, not_false_eq_true, not_true_eq_false, ce_5, pGW_A, pGW_V, pGW_B, pGW_r, pGW_c, pGW_R, pGW_C, pGW_F, pGW_G, pGW_N, pGS_c, pGS_gv, pGS_b, pGS_R, pGS_C, pGS_G, pGS_N, gw_0, gw_1, gw_2, gw_3, gw_4, gw_5, gw_u0, gw_u1, gw_u2, gw_u3, gw_u4, gw_u5, gs_A, gs_V, gs_B, gs_r, gs_c, gs_R, gs_C, gs_F, gs_G, gs_N, sm_z, Nat.add_zero]
  | k + 1, r, n, v, h => by
    have hr : r < S.R := by omega
    rw [ze_37_4, sm_s]
    simp (disch := omega) only [ze_37_0, ze_37_1, ze_37_2, ze_37_3, ze_37_5, ze_37_6, ze_37_9, ze_37_12, ze_37_13, ze_37_15, ze_37_16, ze_37_19, ze_37_22, ze_37_23, ze_37_26, ze_37_27, ze_37_28, ze_37_29, ze_37_30, ze_37_31, ze_37_32, ze_37_33, ze_37_36, ze_37_37, ze_37_38, ze_37_39, ze_37_42, ze_37_45, ze_37_48, ze_37_51, ze_37_54, ze_37_57, ze_37_60, ze_37_61, z_gI, z_gR, z_pF, z_aL, z_aS, z_gO, z_k_r, z_push_s, z_push_n, okS_0, okS_I, okS_R, okS_A, List.getElem?_cons_zero, List.getElem?_cons_succ, List.length_cons, List.length_nil, List.set_cons_zero, List.set_cons_succ, true_and, and_true, z_tI, z_tB, pk_mul, nI_add, cI_cl, cI_ix, arr_at, arr_upd, nar_0, nar_1, nar_b, Nat.reduceAdd, Nat.reduceLT, Nat.reduceMul, cI_lt, cI_eq, if_true, if_false, Nat.lt_irrefl, eq_self, Nat.reduceEqDiff, or_true, true_or, or_false, not_false_eq_true, not_true_eq_false, ce_5, pGW_A, pGW_V, pGW_B, pGW_r, pGW_c, pGW_R, pGW_C, pGW_F, pGW_G, pGW_N, pGS_c, pGS_gv, pGS_b, pGS_R, pGS_C, pGS_G, pGS_N, gw_0, gw_1, gw_2, gw_3, gw_4, gw_5, gw_u0, gw_u1, gw_u2, gw_u3, gw_u4, gw_u5, gs_A, gs_V, gs_B, gs_r, gs_c, gs_R, gs_C, gs_F, gs_G, gs_N, hr]
    rw [s_dead1 hc hd hR hC hr S.C 0 n (by omega)]
    simp (disch := omega) only [ze_37_0, ze_37_1, ze_37_2, ze_37_3, ze_37_5, ze_37_6, ze_37_9, ze_37_12, ze_37_13, ze_37_15, ze_37_16, ze_37_19, ze_37_22, ze_37_23, ze_37_26, ze_37_27, ze_37_28, ze_37_29, ze_37_30, ze_37_31, ze_37_32, ze_37_33, ze_37_36, ze_37_37, ze_37_38, ze_37_39, ze_37_42, ze_37_45, ze_37_48, ze_37_51, ze_37_54, ze_37_57, ze_37_60, ze_37_61, z_gI, z_gR, z_pF, z_aL, z_aS, z_gO, z_k_r, z_push_s, z_push_n, okS_0, okS_I, okS_R, okS_A, List.getElem?_cons_zero, List.getElem?_cons_succ, List.length_cons, List.length_nil, List.set_cons_zero, List.set_cons_succ, true_and, and_true, z_tI, z_tB, pk_mul, nI_add, cI_cl, cI_ix, arr_at, arr_upd, nar_0, nar_1, nar_b, Nat.reduceAdd, Nat.reduceLT, Nat.reduceMul]
    rw [s_dead2 hc hd hR hC k (r + 1) _ _ (by omega), Nat.add_assoc]
def GS.deadN (S : GS) : Nat := sm (fun r => ct (S.dead r) 0 S.C) 0 S.R
theorem s_dead (hc : ∀ k, S.c k ≤ 5) (hd : 0 < d) (hR : S.R ≤ 5) (hC : S.C ≤ 5) : z_Ca g d 37 [.ref a] (gw f a S.w, q) P = P (.inr (some (.int (nI S.deadN))), (gw f a S.w, q)) := by
  rw [zn_37]
  simp (disch := omega) only [ze_37_0, ze_37_1, ze_37_2, ze_37_3, ze_37_5, ze_37_6, ze_37_9, ze_37_12, ze_37_13, ze_37_14, ze_37_15, ze_37_16, ze_37_19, ze_37_22, ze_37_23, ze_37_26, ze_37_27, ze_37_28, ze_37_29, ze_37_30, ze_37_31, ze_37_32, ze_37_33, ze_37_36, ze_37_37, ze_37_38, ze_37_39, ze_37_42, ze_37_45, ze_37_48, ze_37_51, ze_37_54, ze_37_57, ze_37_60, ze_37_61, z_gI, z_gR, z_pF, z_aL, z_aS, z_gO, z_k_r, z_push_s, z_push_n, okS_0, okS_I, okS_R, okS_A, List.getElem?_cons_zero, List.getElem?_cons_succ, List.length_cons, List.length_nil, List.set_cons_zero, List.set_cons_succ, true_and, and_true, z_tI, z_tB, pk_mul, nI_add, cI_cl, cI_ix, arr_at, arr_upd, nar_0, nar_1, nar_b, Nat.reduceAdd, Nat.reduceLT, Nat.reduceMul]
  rw [s_dead2 hc hd hR hC S.R 0 0 _ (by omega), Nat.zero_add]
  rfl
theorem s_full {p : Nat → Bool} (hp : ∀ r, r < S.R → (p r = true ↔ ∀ s, s < 5 → rU S.c r s = decide (s < S.C))) (hd : 0 < d) (hR : S.R ≤ 5) (hC : S.C ≤ 5) : z_Ca g d 36 [.ref a] (gw f a S.w, q) P = P (.inr (some (.int (nI (ct p 0 S.R)))), (gw f a S.w, q)) := by
  rw [zn_36]
  simp (disch := omega) only [ze_36_0, ze_36_1, ze_36_2, ze_36_3, ze_36_5, ze_36_6, ze_36_9, ze_36_12, ze_36_13, ze_36_14, ze_36_17, ze_36_20, ze_36_23, ze_36_26, ze_36_29, ze_36_30, z_gI, z_gR, z_pF, z_aL, z_aS, z_gO, z_k_r, z_push_s, z_push_n, okS_0, okS_I, okS_R, okS_A, List.getElem?_cons_zero, List.getElem?_cons_succ, List.length_cons, List.length_nil, List.set_cons_zero, List.set_cons_succ, true_and, and_true, z_tI, z_tB, pk_mul, nI_add, cI_cl, cI_ix, arr_at, arr_upd, nar_0, nar_1, nar_b, Nat.reduceAdd, Nat.reduceLT, Nat.reduceMul]
  rw [s_fullRows1 p hp hd hR hC S.R 0 0 (by omega), Nat.zero_add]
/-- how often a symbol is used -/
def usR (c : Nat → Nat) (C s r : Nat) : Nat := ct (fun j => decide (c (r * 5 + j) = s)) 0 C
def us (c : Nat → Nat) (R C s : Nat) : Nat := sm (usR c C s) 0 R
end
