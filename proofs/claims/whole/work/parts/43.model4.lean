/-! the reference: counts -/
section
variable {g : z_G} {d : Nat} {f : Nat → Option z_C} {h : z_H} {q : Option Nat × Nat × Nat} {P : z_Res → Prop} {m : Nat} {I : Nat → Int32} {A : Nat → Nat → Int32} {S : GS}
def GS.fl (S : GS) (r : Nat) : Bool := !anyB (fun j => decide (S.c (r * 5 + j) = 5)) S.C
theorem m_isFull1 (hM : MH I A S) (hd : 1 < d) (hc : ∀ k, S.c k ≤ 5) (hC : S.C ≤ 5) {r : Nat} (hr : r < 5) : ∀ (k i : Nat), i + k = S.C → z_T g d 148 4 [.ref m, .int (nI r), .int (zb (!anyB (fun j => decide (S.c (r * 5 + j) = 5)) i)), .int (nI i)] [] (mw f m I A, q) P = P (.inr (some (.int (zb (S.fl r)))), (mw f m I A, q))
  | 0, i, h => by
    have : i = S.C := by omega
    subst this
    have h2 := hM.2.1
    rw [ze_148_4]
    simp (disch := omega) only [ze_148_0, ze_148_1, ze_148_2, ze_148_3, ze_148_5, ze_148_6, ze_148_9, ze_148_12, ze_148_13, ze_148_16, ze_148_17, ze_148_18, ze_148_19, ze_148_22, ze_148_23, ze_148_26, ze_148_27, ze_148_30, ze_148_31, ze_148_32, ze_148_35, ze_148_38, ze_148_39, z_k_r, z_push_s, z_push_n, okS_0, okS_I, okS_R, okS_A, List.getElem?_cons_zero, List.getElem?_cons_succ, List.length_cons, List.length_nil, List.set_cons_zero, List.set_cons_succ, true_and, and_true, z_tI, z_tB, pk_mul, nI_add, cI_cl, cI_ix, nar_0, nar_1, nar_b, Nat.reduceAdd, Nat.reduceLT, Nat.reduceMul, mg_0, mg_1, mg_2, mg_3, mg_4, mg_5, mg_6, mg_7, mg_8, mg_9, mg_10, mg_11, mg_12, mg_13, mg_14, mg_15, mg_16, mg_17, mg_18, mg_19, mg_20, mg_21, mg_22, mg_23, mg_24, mg_25, mg_26, mg_27, mg_28, mp_0, mp_1, mp_2, mp_3, mp_4, mp_5, mp_6, mp_13, mp_14, mp_15, mp_16, mp_17, mp_18, mp_19, mp_20, mp_21, mp_23, mL_1, mL_2, mL_3, mL_4, mL_5, mL_6, mL_7, mL_8, mL_9, mL_10, mL_11, mL_12, mS_1, mS_2, mS_3, mS_4, mS_5, mS_6, mS_7, mS_8, mS_9, mS_10, mS_11, mS_12, m_gO, uA_s, uA_n, cI_lt, cI_eq, if_true, if_false, Nat.lt_irrefl, eq_self, Nat.reduceEqDiff, or_true, true_or, or_false, false_or, not_false_eq_true, not_true_eq_false, ce_5, zb_t, zb_f, h2]
    unfold GS.fl
    cases anyB (fun j => decide (S.c (r * 5 + j) = 5)) S.C <;> simp [zb, cI_eq]
  | k + 1, i, h => by
    have hi : i < S.C := by omega
    have h2 := hM.2.1
    have e5 := ce_em (hc (r * 5 + i))
    have hd0 : 0 < d := by omega
    rw [ze_148_4, ← m_isFull1 hM hd hc hC hr k (i + 1) (by omega), anyB_s]
    simp (disch := omega) only [ze_148_0, ze_148_1, ze_148_2, ze_148_3, ze_148_5, ze_148_6, ze_148_9, ze_148_12, ze_148_13, ze_148_16, ze_148_17, ze_148_18, ze_148_19, ze_148_22, ze_148_23, ze_148_26, ze_148_27, ze_148_30, ze_148_31, ze_148_32, ze_148_35, ze_148_38, ze_148_39, z_k_r, z_push_s, z_push_n, okS_0, okS_I, okS_R, okS_A, List.getElem?_cons_zero, List.getElem?_cons_succ, List.length_cons, List.length_nil, List.set_cons_zero, List.set_cons_succ, true_and, and_true, z_tI, z_tB, pk_mul, nI_add, cI_cl, cI_ix, nar_0, nar_1, nar_b, Nat.reduceAdd, Nat.reduceLT, Nat.reduceMul, mg_0, mg_1, mg_2, mg_3, mg_4, mg_5, mg_6, mg_7, mg_8, mg_9, mg_10, mg_11, mg_12, mg_13, mg_14, mg_15, mg_16, mg_17, mg_18, mg_19, mg_20, mg_21, mg_22, mg_23, mg_24, mg_25, mg_26, mg_27, mg_28, mp_0, mp_1, mp_2, mp_3, mp_4, mp_5, mp_6, mp_13, mp_14, mp_15, mp_16, mp_17, mp_18, mp_19, mp_20, mp_21, mp_23, mL_1, mL_2, mL_3, mL_4, mL_5, mL_6, mL_7, mL_8, mL_9, mL_10, mL_11, mL_12, mS_1, mS_2, mS_3, mS_4, mS_5, mS_6, mS_7, mS_8, mS_9, mS_10, mS_11, mS_12, m_gO, uA_s, uA_n, cI_lt, cI_eq, if_true, if_false, Nat.lt_irrefl, eq_self, Nat.reduceEqDiff, or_true, true_or, or_false, false_or, not_false_eq_true, not_true_eq_false, ce_5, zb_t, zb_f, h2, hi, m_at hM, hd0, e5, zb_0]
    by_cases e : S.c (r * 5 + i) = 5
    · cases anyB (fun j => decide (S.c (r * 5 + j) = 5)) i <;> simp [e, zb]
    · cases anyB (fun j => decide (S.c (r * 5 + j) = 5)) i <;> simp [e, zb]
theorem m_isFull (hM : MH I A S) (hg : GI S) (hd : 1 < d) {r : Nat} (hr : r < 5) : z_Ca g d 148 [.ref m, .int (nI r)] (mw f m I A, q) P = P (.inr (some (.int (zb (S.fl r)))), (mw f m I A, q)) := by
  rw [zn_148]
  simp (disch := omega) only [ze_148_0, ze_148_1, ze_148_2, ze_148_3, ze_148_5, ze_148_6, ze_148_9, ze_148_12, ze_148_13, ze_148_16, ze_148_17, ze_148_18, ze_148_19, ze_148_22, ze_148_23, ze_148_26, ze_148_27, ze_148_30, ze_148_31, ze_148_32, ze_148_35, ze_148_38, ze_148_39, z_k_r, z_push_s, z_push_n, okS_0, okS_I, okS_R, okS_A, List.getElem?_cons_zero, List.getElem?_cons_succ, List.length_cons, List.length_nil, List.set_cons_zero, List.set_cons_succ, true_and, and_true, z_tI, z_tB, pk_mul, nI_add, cI_cl, cI_ix, nar_0, nar_1, nar_b, Nat.reduceAdd, Nat.reduceLT, Nat.reduceMul]
  have := m_isFull1 (g := g) (f := f) (q := q) (P := P) (m := m) hM hd hg.c5 hg.C5 hr S.C 0 (by omega)
  simp only [anyB_z, Bool.not_false, zb_t] at this
  exact this
theorem m_fullRows1 (hM : MH I A S) (hg : GI S) (hd : 2 < d) : ∀ (k r n : Nat), r + k = S.R → z_T g d 153 4 [.ref m, .int (nI n), .int (nI r)] [] (mw f m I A, q) P = P (.inr (some (.int (nI (n + ct S.fl r k)))), (mw f m I A, q))
  | 0, r, n, h => by
    have : r = S.R := by omega
    subst this
    have h1 := hM.1
    have hC := hg.C5
    have hR := hg.RC
    rw [ze_153_4]
    simp (disch := omega) only [ze_153_0, ze_153_1, ze_153_2, ze_153_3, ze_153_5, ze_153_6, ze_153_9, ze_153_12, ze_153_13, ze_153_14, ze_153_15, ze_153_18, ze_153_21, ze_153_22, ze_153_25, ze_153_26, ze_153_27, ze_153_28, ze_153_31, ze_153_34, ze_153_35, z_k_r, z_push_s, z_push_n, okS_0, okS_I, okS_R, okS_A, List.getElem?_cons_zero, List.getElem?_cons_succ, List.length_cons, List.length_nil, List.set_cons_zero, List.set_cons_succ, true_and, and_true, z_tI, z_tB, pk_mul, nI_add, cI_cl, cI_ix, nar_0, nar_1, nar_b, Nat.reduceAdd, Nat.reduceLT, Nat.reduceMul, mg_0, mg_1, mg_2, mg_3, mg_4, mg_5, mg_6, mg_7, mg_8, mg_9, mg_10, mg_11, mg_12, mg_13, mg_14, mg_15, mg_16, mg_17, mg_18, mg_19, mg_20, mg_21, mg_22, mg_23, mg_24, mg_25, mg_26, mg_27, mg_28, mp_0, mp_1, mp_2, mp_3, mp_4, mp_5, mp_6, mp_13, mp_14, mp_15, mp_16, mp_17, mp_18, mp_19, mp_20, mp_21, mp_23, mL_1, mL_2, mL_3, mL_4, mL_5, mL_6, mL_7, mL_8, mL_9, mL_10, mL_11, mL_12, mS_1, mS_2, mS_3, mS_4, mS_5, mS_6, mS_7, mS_8, mS_9, mS_10, mS_11, mS_12, m_gO, uA_s, uA_n, cI_lt, cI_eq, if_true, if_false, Nat.lt_irrefl, eq_self, Nat.reduceEqDiff, or_true, true_or, or_false, false_or, not_false_eq_true, not_true_eq_false, ce_5, zb_t, zb_f, h1, ct_z, Nat.add_zero]
  | k + 1, r, n, h => by
    have hr : r < S.R := by omega
    have h1 := hM.1
    have hC := hg.C5
    have hR := hg.RC
    have hd0 : 0 < d := by omega
    rw [ze_153_4, ct_s]
    simp (disch := omega) only [ze_153_0, ze_153_1, ze_153_2, ze_153_3, ze_153_5, ze_153_6, ze_153_9, ze_153_12, ze_153_13, ze_153_14, ze_153_15, ze_153_18, ze_153_21, ze_153_22, ze_153_25, ze_153_26, ze_153_27, ze_153_28, ze_153_31, ze_153_34, ze_153_35, z_k_r, z_push_s, z_push_n, okS_0, okS_I, okS_R, okS_A, List.getElem?_cons_zero, List.getElem?_cons_succ, List.length_cons, List.length_nil, List.set_cons_zero, List.set_cons_succ, true_and, and_true, z_tI, z_tB, pk_mul, nI_add, cI_cl, cI_ix, nar_0, nar_1, nar_b, Nat.reduceAdd, Nat.reduceLT, Nat.reduceMul, mg_0, mg_1, mg_2, mg_3, mg_4, mg_5, mg_6, mg_7, mg_8, mg_9, mg_10, mg_11, mg_12, mg_13, mg_14, mg_15, mg_16, mg_17, mg_18, mg_19, mg_20, mg_21, mg_22, mg_23, mg_24, mg_25, mg_26, mg_27, mg_28, mp_0, mp_1, mp_2, mp_3, mp_4, mp_5, mp_6, mp_13, mp_14, mp_15, mp_16, mp_17, mp_18, mp_19, mp_20, mp_21, mp_23, mL_1, mL_2, mL_3, mL_4, mL_5, mL_6, mL_7, mL_8, mL_9, mL_10, mL_11, mL_12, mS_1, mS_2, mS_3, mS_4, mS_5, mS_6, mS_7, mS_8, mS_9, mS_10, mS_11, mS_12, m_gO, uA_s, uA_n, cI_lt, cI_eq, if_true, if_false, Nat.lt_irrefl, eq_self, Nat.reduceEqDiff, or_true, true_or, or_false, false_or, not_false_eq_true, not_true_eq_false, ce_5, zb_t, zb_f, h1, hr, m_isFull hM hg, hd0, zb_0]
    cases e : S.fl r
    · simp only [if_true]
      rw [m_fullRows1 hM hg hd k (r + 1) _ (by omega), Bool.toNat_false, Nat.zero_add, Nat.add_zero]
    · simp only [if_false, Bool.true_eq_false]
      rw [m_fullRows1 hM hg hd k (r + 1) _ (by omega), Bool.toNat_true, Nat.add_assoc]
theorem m_fullRows (hM : MH I A S) (hg : GI S) (hd : 2 < d) : z_Ca g d 153 [.ref m] (mw f m I A, q) P = P (.inr (some (.int (nI (ct S.fl 0 S.R)))), (mw f m I A, q)) := by
  rw [zn_153]
  simp (disch := omega) only [ze_153_0, ze_153_1, ze_153_2, ze_153_3, ze_153_5, ze_153_6, ze_153_9, ze_153_12, ze_153_13, ze_153_14, ze_153_15, ze_153_18, ze_153_21, ze_153_22, ze_153_25, ze_153_26, ze_153_27, ze_153_28, ze_153_31, ze_153_34, ze_153_35, z_k_r, z_push_s, z_push_n, okS_0, okS_I, okS_R, okS_A, List.getElem?_cons_zero, List.getElem?_cons_succ, List.length_cons, List.length_nil, List.set_cons_zero, List.set_cons_succ, true_and, and_true, z_tI, z_tB, pk_mul, nI_add, cI_cl, cI_ix, nar_0, nar_1, nar_b, Nat.reduceAdd, Nat.reduceLT, Nat.reduceMul]
  rw [m_fullRows1 hM hg hd S.R 0 0 (by omega), Nat.zero_add]
theorem m_stuck1 (hM : MH I A S) (hg : GI S) (hd : 2 < d) {r : Nat} (hr : r < S.R) : ∀ (k j n : Nat), j + k = S.C → z_T g d 152 14 [.ref m, .int (nI n), .int (nI r), .int (nI j)] [] (mw f m I A, q) P = z_T g d 152 55 [.ref m, .int (nI (n + ct (S.dead r) j k)), .int (nI r), .int (nI S.C)] [] (mw f m I A, q) P
  | 0, j, n, h => by
    have : j = S.C := by omega
    subst this
    have h1 := hM.2.1
    have hC := hg.C5
    rw [ze_152_14]
    simp (disch := omega) only [ze_152_0, ze_152_1, ze_152_2, ze_152_3, ze_152_4, ze_152_5, ze_152_6, ze_152_9, ze_152_12, ze_152_13, ze_152_15, ze_152_16, ze_152_19, ze_152_22, ze_152_23, ze_152_24, ze_152_25, ze_152_26, ze_152_29, ze_152_30, ze_152_33, ze_152_34, ze_152_35, ze_152_36, ze_152_39, ze_152_42, ze_152_43, ze_152_46, ze_152_47, ze_152_48, ze_152_49, ze_152_52, ze_152_58, ze_152_61, ze_152_62, z_k_r, z_push_s, z_push_n, okS_0, okS_I, okS_R, okS_A, List.getElem?_cons_zero, List.getElem?_cons_succ, List.length_cons, List.length_nil, List.set_cons_zero, List.set_cons_succ, true_and, and_true, z_tI, z_tB, pk_mul, nI_add, cI_cl, cI_ix, nar_0, nar_1, nar_b, Nat.reduceAdd, Nat.reduceLT, Nat.reduceMul, mg_0, mg_1, mg_2, mg_3, mg_4, mg_5, mg_6, mg_7, mg_8, mg_9, mg_10, mg_11, mg_12, mg_13, mg_14, mg_15, mg_16, mg_17, mg_18, mg_19, mg_20, mg_21, mg_22, mg_23, mg_24, mg_25, mg_26, mg_27, mg_28, mp_0, mp_1, mp_2, mp_3, mp_4, mp_5, mp_6, mp_13, mp_14, mp_15, mp_16, mp_17, mp_18, mp_19, mp_20, mp_21, mp_23, mL_1, mL_2, mL_3, mL_4, mL_5, mL_6, mL_7, mL_8, mL_9, mL_10, mL_11, mL_12, mS_1, mS_2, mS_3, mS_4, mS_5, mS_6, mS_7, mS_8, mS_9, mS_10, mS_11, mS_12, m_gO, uA_s, uA_n, cI_lt, cI_eq, if_true, if_false, Nat.lt_irrefl, eq_self, Nat.reduceEqDiff, or_true, true_or, or_false, false_or, not_false_eq_true, not_true_eq_false, ce_5, zb_t, zb_f, h1, ct_z, Nat.add_zero]
  | k + 1, j, n, h => by
    have hj : j < S.C := by omega
    have h1 := hM.2.1
    have hC := hg.C5
    have hR := hg.RC
    have hd0 : 0 < d := by omega
    have e5 := ce_em (hg.c5 (r * 5 + j))
    rw [ze_152_14, ct_s]
    simp (disch := omega) only [ze_152_0, ze_152_1, ze_152_2, ze_152_3, ze_152_4, ze_152_5, ze_152_6, ze_152_9, ze_152_12, ze_152_13, ze_152_15, ze_152_16, ze_152_19, ze_152_22, ze_152_23, ze_152_24, ze_152_25, ze_152_26, ze_152_29, ze_152_30, ze_152_33, ze_152_34, ze_152_35, ze_152_36, ze_152_39, ze_152_42, ze_152_43, ze_152_46, ze_152_47, ze_152_48, ze_152_49, ze_152_52, ze_152_58, ze_152_61, ze_152_62, z_k_r, z_push_s, z_push_n, okS_0, okS_I, okS_R, okS_A, List.getElem?_cons_zero, List.getElem?_cons_succ, List.length_cons, List.length_nil, List.set_cons_zero, List.set_cons_succ, true_and, and_true, z_tI, z_tB, pk_mul, nI_add, cI_cl, cI_ix, nar_0, nar_1, nar_b, Nat.reduceAdd, Nat.reduceLT, Nat.reduceMul, mg_0, mg_1, mg_2, mg_3, mg_4, mg_5, mg_6, mg_7, mg_8, mg_9, mg_10, mg_11, mg_12, mg_13, mg_14, mg_15, mg_16, mg_17, mg_18, mg_19, mg_20, mg_21, mg_22, mg_23, mg_24, mg_25, mg_26, mg_27, mg_28, mp_0, mp_1, mp_2, mp_3, mp_4, mp_5, mp_6, mp_13, mp_14, mp_15, mp_16, mp_17, mp_18, mp_19, mp_20, mp_21, mp_23, mL_1, mL_2, mL_3, mL_4, mL_5, mL_6, mL_7, mL_8, mL_9, mL_10, mL_11, mL_12, mS_1, mS_2, mS_3, mS_4, mS_5, mS_6, mS_7, mS_8, mS_9, mS_10, mS_11, mS_12, m_gO, uA_s, uA_n, cI_lt, cI_eq, if_true, if_false, Nat.lt_irrefl, eq_self, Nat.reduceEqDiff, or_true, true_or, or_false, false_or, not_false_eq_true, not_true_eq_false, ce_5, zb_t, zb_f, h1, hj, m_at hM, m_cand hM hg, hd0, e5]
    by_cases e : S.c (r * 5 + j) = 5
    · simp only [dead_iff e, e, if_true, not_true_eq_false, if_false]
      cases e2 : S.dead r j
      · simp only [Bool.false_eq_true, not_false_eq_true, if_true, if_false]
        rw [m_stuck1 hM hg hd hr k (j + 1) _ (by omega), Bool.toNat_false, Nat.zero_add, Nat.add_zero]
      · simp only [not_true_eq_false, if_true, if_false]
        rw [m_stuck1 hM hg hd hr k (j + 1) _ (by omega), Bool.toNat_true, Nat.add_assoc]
    · have e2 : S.dead r j = false := by unfold GS.dead; simp [e]
      simp only [e, if_false, not_false_eq_true, if_true]
      rw [m_stuck1 hM hg hd hr k (j + 1) _ (by omega), e2, Bool.toNat_false, Nat.zero_add, Nat.add_zero]
theorem m_stuck2 (hM : MH I A S) (hg : GI S) (hd : 2 < d) : ∀ (k r n : Nat) (v : Value), r + k = S.R → z_T g d 152 4 [.ref m, .int (nI n), .int (nI r), v] [] (mw f m I A, q) P = P (.inr (some (.int (nI (n + sm (fun r => ct (S.dead r) 0 S.C) r k)))), (mw f m I A, q))
  | 0, r, n, v, h => by
    have : r = S.R := by omega
    subst this
    have h1 := hM.1
    have hC := hg.C5
    have hR := hg.RC
    rw [ze_152_4]
    simp (disch := omega) only [ze_152_0, ze_152_1, ze_152_2, ze_152_3, ze_152_5, ze_152_6, ze_152_9, ze_152_12, ze_152_13, ze_152_15, ze_152_16, ze_152_19, ze_152_22, ze_152_23, ze_152_24, ze_152_25, ze_152_26, ze_152_29, ze_152_30, ze_152_33, ze_152_34, ze_152_35, ze_152_36, ze_152_39, ze_152_42, ze_152_43, ze_152_46, ze_152_47, ze_152_48, ze_152_49, ze_152_52, ze_152_55, ze_152_58, ze_152_61, ze_152_62, z_k_r, z_push_s, z_push_n, okS_0, okS_I, okS_R, okS_A, List.getElem?_cons_zero, List.getElem?_cons_succ, List.length_cons, List.length_nil, List.set_cons_zero, List.set_cons_succ, true_and, and_true, z_tI, z_tB, pk_mul, nI_add, cI_cl, cI_ix, nar_0, nar_1, nar_b, Nat.reduceAdd, Nat.reduceLT, Nat.reduceMul, mg_0, mg_1, mg_2, mg_3, mg_4, mg_5, mg_6, mg_7, mg_8, mg_9, mg_10, mg_11, mg_12, mg_13, mg_14, mg_15, mg_16, mg_17, mg_18, mg_19, mg_20, mg_21, mg_22, mg_23, mg_24, mg_25, mg_26, mg_27, mg_28, mp_0, mp_1, mp_2, mp_3, mp_4, mp_5, mp_6, mp_13, mp_14, mp_15, mp_16, mp_17, mp_18, mp_19, mp_20, mp_21, mp_23, mL_1, mL_2, mL_3, mL_4, mL_5, mL_6, mL_7, mL_8, mL_9, mL_10, mL_11, mL_12, mS_1, mS_2, mS_3, mS_4, mS_5, mS_6, mS_7, mS_8, mS_9, mS_10, mS_11, mS_12, m_gO, uA_s, uA_n, cI_lt, cI_eq, if_true, if_false, Nat.lt_irrefl, eq_self, Nat.reduceEqDiff, or_true, true_or, or_false, false_or, not_false_eq_true, not_true_eq_false, ce_5, zb_t, zb_f, h1, sm_z, Nat.add_zero]
  | k + 1, r, n, v, h => by
    have hr : r < S.R := by omega
    have h1 := hM.1
    have hC := hg.C5
    have hR := hg.RC
    rw [ze_152_4, sm_s]
    simp (disch := omega) only [ze_152_0, ze_152_1, ze_152_2, ze_152_3, ze_152_5, ze_152_6, ze_152_9, ze_152_12, ze_152_13, ze_152_15, ze_152_16, ze_152_19, ze_152_22, ze_152_23, ze_152_24, ze_152_25, ze_152_26, ze_152_29, ze_152_30, ze_152_33, ze_152_34, ze_152_35, ze_152_36, ze_152_39, ze_152_42, ze_152_43, ze_152_46, ze_152_47, ze_152_48, ze_152_49, ze_152_52, ze_152_55, ze_152_58, ze_152_61, ze_152_62, z_k_r, z_push_s, z_push_n, okS_0, okS_I, okS_R, okS_A, List.getElem?_cons_zero, List.getElem?_cons_succ, List.length_cons, List.length_nil, List.set_cons_zero, List.set_cons_succ, true_and, and_true, z_tI, z_tB, pk_mul, nI_add, cI_cl, cI_ix, nar_0, nar_1, nar_b, Nat.reduceAdd, Nat.reduceLT, Nat.reduceMul, mg_0, mg_1, mg_2, mg_3, mg_4, mg_5, mg_6, mg_7, mg_8, mg_9, mg_10, mg_11, mg_12, mg_13, mg_14, mg_15, mg_16, mg_17, mg_18, mg_19, mg_20, mg_21, mg_22, mg_23, mg_24, mg_25, mg_26, mg_27, mg_28, mp_0, mp_1, mp_2, mp_3, mp_4, mp_5, mp_6, mp_13, mp_14, mp_15, mp_16, mp_17, mp_18, mp_19, mp_20, mp_21, mp_23, mL_1, mL_2, mL_3, mL_4, mL_5, mL_6, mL_7, mL_8, mL_9, mL_10, mL_11, mL_12, mS_1, mS_2, mS_3, mS_4, mS_5, mS_6, mS_7, mS_8, mS_9, mS_10, mS_11, mS_12, m_gO, uA_s, uA_n, cI_lt, cI_eq, if_true, if_false, Nat.lt_irrefl, eq_self, Nat.reduceEqDiff, or_true, true_or, or_false, false_or, not_false_eq_true, not_true_eq_false, ce_5, zb_t, zb_f, h1, hr]
    rw [m_stuck1 hM hg hd hr S.C 0 n (by omega)]
    simp (disch := omega) only [ze_152_0, ze_152_1, ze_152_2, ze_152_3, ze_152_5, ze_152_6, ze_152_9, ze_152_12, ze_152_13, ze_152_15, ze_152_16, ze_152_19, ze_152_22, ze_152_23, ze_152_24, ze_152_25, ze_152_26, ze_152_29, ze_152_30, ze_152_33, ze_152_34, ze_152_35, ze_152_36, ze_152_39, ze_152_42, ze_152_43, ze_152_46, ze_152_47, ze_152_48, ze_152_49, ze_152_52, ze_152_55, ze_152_58, ze_152_61, ze_152_62, z_k_r, z_push_s, z_push_n, okS_0, okS_I, okS_R, okS_A, List.getElem?_cons_zero, List.getElem?_cons_succ, List.length_cons, List.length_nil, List.set_cons_zero, List.set_cons_succ, true_and, and_true, z_tI, z_tB, pk_mul, nI_add, cI_cl, cI_ix, nar_0, nar_1, nar_b, Nat.reduceAdd, Nat.reduceLT, Nat.reduceMul]
    rw [m_stuck2 hM hg hd k (r + 1) _ _ (by omega), Nat.add_assoc]
theorem m_stuck (hM : MH I A S) (hg : GI S) (hd : 2 < d) : z_Ca g d 152 [.ref m] (mw f m I A, q) P = P (.inr (some (.int (nI S.deadN))), (mw f m I A, q)) := by
  rw [zn_152]
  simp (disch := omega) only [ze_152_0, ze_152_1, ze_152_2, ze_152_3, ze_152_5, ze_152_6, ze_152_9, ze_152_12, ze_152_13, ze_152_14, ze_152_15, ze_152_16, ze_152_19, ze_152_22, ze_152_23, ze_152_24, ze_152_25, ze_152_26, ze_152_29, ze_152_30, ze_152_33, ze_152_34, ze_152_35, ze_152_36, ze_152_39, ze_152_42, ze_152_43, ze_152_46, ze_152_47, ze_152_48, ze_152_49, ze_152_52, ze_152_55, ze_152_58, ze_152_61, ze_152_62, z_k_r, z_push_s, z_push_n, okS_0, okS_I, okS_R, okS_A, List.getElem?_cons_zero, List.getElem?_cons_succ, List.length_cons, List.length_nil, List.set_cons_zero, List.set_cons_succ, true_and, and_true, z_tI, z_tB, pk_mul, nI_add, cI_cl, cI_ix, nar_0, nar_1, nar_b, Nat.reduceAdd, Nat.reduceLT, Nat.reduceMul]
  rw [m_stuck2 hM hg hd S.R 0 0 _ (by omega), Nat.zero_add]
  rfl
theorem m_filled1 (hM : MH I A S) (hg : GI S) : ∀ (k i n : Nat), i + k = 25 → n = nF S.c i → z_T g d 146 4 [.ref m, .int (nI n), .int (nI i)] [] (mw f m I A, q) P = P (.inr (some (.int (nI (nF S.c 25)))), (mw f m I A, q))
  | 0, i, n, h, hn => by
    have : i = 25 := by omega
    subst this
    rw [ze_146_4]
    simp (disch := omega) only [ze_146_0, ze_146_1, ze_146_2, ze_146_3, ze_146_5, ze_146_7, ze_146_10, ze_146_11, ze_146_12, ze_146_15, ze_146_16, ze_146_17, ze_146_18, ze_146_21, ze_146_22, ze_146_25, ze_146_26, ze_146_27, ze_146_28, ze_146_31, ze_146_34, ze_146_35, z_k_r, z_push_s, z_push_n, okS_0, okS_I, okS_R, okS_A, List.getElem?_cons_zero, List.getElem?_cons_succ, List.length_cons, List.length_nil, List.set_cons_zero, List.set_cons_succ, true_and, and_true, z_tI, z_tB, pk_mul, nI_add, cI_cl, cI_ix, nar_0, nar_1, nar_b, Nat.reduceAdd, Nat.reduceLT, Nat.reduceMul, mg_0, mg_1, mg_2, mg_3, mg_4, mg_5, mg_6, mg_7, mg_8, mg_9, mg_10, mg_11, mg_12, mg_13, mg_14, mg_15, mg_16, mg_17, mg_18, mg_19, mg_20, mg_21, mg_22, mg_23, mg_24, mg_25, mg_26, mg_27, mg_28, mp_0, mp_1, mp_2, mp_3, mp_4, mp_5, mp_6, mp_13, mp_14, mp_15, mp_16, mp_17, mp_18, mp_19, mp_20, mp_21, mp_23, mL_1, mL_2, mL_3, mL_4, mL_5, mL_6, mL_7, mL_8, mL_9, mL_10, mL_11, mL_12, mS_1, mS_2, mS_3, mS_4, mS_5, mS_6, mS_7, mS_8, mS_9, mS_10, mS_11, mS_12, m_gO, uA_s, uA_n, cI_lt, cI_eq, if_true, if_false, Nat.lt_irrefl, eq_self, Nat.reduceEqDiff, or_true, true_or, or_false, false_or, not_false_eq_true, not_true_eq_false, ce_5, zb_t, zb_f, hn]
  | k + 1, i, n, h, hn => by
    have hi : i < 25 := by omega
    have e5 := ce_em (hg.c5 i)
    have h5 := hM.2.2.1
    rw [ze_146_4]
    simp (disch := omega) only [ze_146_0, ze_146_1, ze_146_2, ze_146_3, ze_146_5, ze_146_7, ze_146_10, ze_146_11, ze_146_12, ze_146_15, ze_146_16, ze_146_17, ze_146_18, ze_146_21, ze_146_22, ze_146_25, ze_146_26, ze_146_27, ze_146_28, ze_146_31, ze_146_34, ze_146_35, z_k_r, z_push_s, z_push_n, okS_0, okS_I, okS_R, okS_A, List.getElem?_cons_zero, List.getElem?_cons_succ, List.length_cons, List.length_nil, List.set_cons_zero, List.set_cons_succ, true_and, and_true, z_tI, z_tB, pk_mul, nI_add, cI_cl, cI_ix, nar_0, nar_1, nar_b, Nat.reduceAdd, Nat.reduceLT, Nat.reduceMul, mg_0, mg_1, mg_2, mg_3, mg_4, mg_5, mg_6, mg_7, mg_8, mg_9, mg_10, mg_11, mg_12, mg_13, mg_14, mg_15, mg_16, mg_17, mg_18, mg_19, mg_20, mg_21, mg_22, mg_23, mg_24, mg_25, mg_26, mg_27, mg_28, mp_0, mp_1, mp_2, mp_3, mp_4, mp_5, mp_6, mp_13, mp_14, mp_15, mp_16, mp_17, mp_18, mp_19, mp_20, mp_21, mp_23, mL_1, mL_2, mL_3, mL_4, mL_5, mL_6, mL_7, mL_8, mL_9, mL_10, mL_11, mL_12, mS_1, mS_2, mS_3, mS_4, mS_5, mS_6, mS_7, mS_8, mS_9, mS_10, mS_11, mS_12, m_gO, uA_s, uA_n, cI_lt, cI_eq, if_true, if_false, Nat.lt_irrefl, eq_self, Nat.reduceEqDiff, or_true, true_or, or_false, false_or, not_false_eq_true, not_true_eq_false, ce_5, zb_t, zb_f, hi, h5, e5]
    by_cases e : S.c i = 5
    · simp only [e, if_true, not_true_eq_false, if_false]
      rw [m_filled1 hM hg k (i + 1) _ (by omega) (by unfold nF; rw [if_pos e, hn])]
    · simp only [e, if_true, not_false_eq_true, if_false]
      rw [m_filled1 hM hg k (i + 1) _ (by omega) (by conv => rhs; unfold nF
                                                     rw [if_neg e, hn])]
theorem m_filled (hM : MH I A S) (hg : GI S) : z_Ca g d 146 [.ref m] (mw f m I A, q) P = P (.inr (some (.int (nI (nF S.c 25)))), (mw f m I A, q)) := by
  rw [zn_146]
  simp (disch := omega) only [ze_146_0, ze_146_1, ze_146_2, ze_146_3, ze_146_5, ze_146_7, ze_146_10, ze_146_11, ze_146_12, ze_146_15, ze_146_16, ze_146_17, ze_146_18, ze_146_21, ze_146_22, ze_146_25, ze_146_26, ze_146_27, ze_146_28, ze_146_31, ze_146_34, ze_146_35, z_k_r, z_push_s, z_push_n, okS_0, okS_I, okS_R, okS_A, List.getElem?_cons_zero, List.getElem?_cons_succ, List.length_cons, List.length_nil, List.set_cons_zero, List.set_cons_succ, true_and, and_true, z_tI, z_tB, pk_mul, nI_add, cI_cl, cI_ix, nar_0, nar_1, nar_b, Nat.reduceAdd, Nat.reduceLT, Nat.reduceMul]
  rw [m_filled1 hM hg 25 0 0 (by omega) rfl]
theorem m_given1 {c : Nat → Nat} (hc : ∀ k, c k ≤ 5) (hA : ∀ k, k < 25 → A 1 k = ce (c k)) : ∀ (k i n : Nat), i + k = 25 → n = nF c i → z_T g d 147 4 [.ref m, .int (nI n), .int (nI i)] [] (mw f m I A, q) P = P (.inr (some (.int (nI (nF c 25)))), (mw f m I A, q))
  | 0, i, n, h, hn => by
    have : i = 25 := by omega
    subst this
    rw [ze_147_4]
    simp (disch := omega) only [ze_147_0, ze_147_1, ze_147_2, ze_147_3, ze_147_5, ze_147_7, ze_147_10, ze_147_11, ze_147_12, ze_147_15, ze_147_16, ze_147_17, ze_147_18, ze_147_21, ze_147_22, ze_147_25, ze_147_26, ze_147_27, ze_147_28, ze_147_31, ze_147_34, ze_147_35, z_k_r, z_push_s, z_push_n, okS_0, okS_I, okS_R, okS_A, List.getElem?_cons_zero, List.getElem?_cons_succ, List.length_cons, List.length_nil, List.set_cons_zero, List.set_cons_succ, true_and, and_true, z_tI, z_tB, pk_mul, nI_add, cI_cl, cI_ix, nar_0, nar_1, nar_b, Nat.reduceAdd, Nat.reduceLT, Nat.reduceMul, mg_0, mg_1, mg_2, mg_3, mg_4, mg_5, mg_6, mg_7, mg_8, mg_9, mg_10, mg_11, mg_12, mg_13, mg_14, mg_15, mg_16, mg_17, mg_18, mg_19, mg_20, mg_21, mg_22, mg_23, mg_24, mg_25, mg_26, mg_27, mg_28, mp_0, mp_1, mp_2, mp_3, mp_4, mp_5, mp_6, mp_13, mp_14, mp_15, mp_16, mp_17, mp_18, mp_19, mp_20, mp_21, mp_23, mL_1, mL_2, mL_3, mL_4, mL_5, mL_6, mL_7, mL_8, mL_9, mL_10, mL_11, mL_12, mS_1, mS_2, mS_3, mS_4, mS_5, mS_6, mS_7, mS_8, mS_9, mS_10, mS_11, mS_12, m_gO, uA_s, uA_n, cI_lt, cI_eq, if_true, if_false, Nat.lt_irrefl, eq_self, Nat.reduceEqDiff, or_true, true_or, or_false, false_or, not_false_eq_true, not_true_eq_false, ce_5, zb_t, zb_f, hn]
  | k + 1, i, n, h, hn => by
    have hi : i < 25 := by omega
    have e5 := ce_em (hc i)
    rw [ze_147_4]
    simp (disch := omega) only [ze_147_0, ze_147_1, ze_147_2, ze_147_3, ze_147_5, ze_147_7, ze_147_10, ze_147_11, ze_147_12, ze_147_15, ze_147_16, ze_147_17, ze_147_18, ze_147_21, ze_147_22, ze_147_25, ze_147_26, ze_147_27, ze_147_28, ze_147_31, ze_147_34, ze_147_35, z_k_r, z_push_s, z_push_n, okS_0, okS_I, okS_R, okS_A, List.getElem?_cons_zero, List.getElem?_cons_succ, List.length_cons, List.length_nil, List.set_cons_zero, List.set_cons_succ, true_and, and_true, z_tI, z_tB, pk_mul, nI_add, cI_cl, cI_ix, nar_0, nar_1, nar_b, Nat.reduceAdd, Nat.reduceLT, Nat.reduceMul, mg_0, mg_1, mg_2, mg_3, mg_4, mg_5, mg_6, mg_7, mg_8, mg_9, mg_10, mg_11, mg_12, mg_13, mg_14, mg_15, mg_16, mg_17, mg_18, mg_19, mg_20, mg_21, mg_22, mg_23, mg_24, mg_25, mg_26, mg_27, mg_28, mp_0, mp_1, mp_2, mp_3, mp_4, mp_5, mp_6, mp_13, mp_14, mp_15, mp_16, mp_17, mp_18, mp_19, mp_20, mp_21, mp_23, mL_1, mL_2, mL_3, mL_4, mL_5, mL_6, mL_7, mL_8, mL_9, mL_10, mL_11, mL_12, mS_1, mS_2, mS_3, mS_4, mS_5, mS_6, mS_7, mS_8, mS_9, mS_10, mS_11, mS_12, m_gO, uA_s, uA_n, cI_lt, cI_eq, if_true, if_false, Nat.lt_irrefl, eq_self, Nat.reduceEqDiff, or_true, true_or, or_false, false_or, not_false_eq_true, not_true_eq_false, ce_5, zb_t, zb_f, hi, hA, e5]
    by_cases e : c i = 5
    · simp only [e, if_true, not_true_eq_false, if_false]
      rw [m_given1 hc hA k (i + 1) _ (by omega) (by unfold nF; rw [if_pos e, hn])]
    · simp only [e, if_true, not_false_eq_true, if_false]
      rw [m_given1 hc hA k (i + 1) _ (by omega) (by conv => rhs; unfold nF
                                                    rw [if_neg e, hn])]
theorem m_given {c : Nat → Nat} (hc : ∀ k, c k ≤ 5) (hA : ∀ k, k < 25 → A 1 k = ce (c k)) : z_Ca g d 147 [.ref m] (mw f m I A, q) P = P (.inr (some (.int (nI (nF c 25)))), (mw f m I A, q)) := by
  rw [zn_147]
  simp (disch := omega) only [ze_147_0, ze_147_1, ze_147_2, ze_147_3, ze_147_5, ze_147_7, ze_147_10, ze_147_11, ze_147_12, ze_147_15, ze_147_16, ze_147_17, ze_147_18, ze_147_21, ze_147_22, ze_147_25, ze_147_26, ze_147_27, ze_147_28, ze_147_31, ze_147_34, ze_147_35, z_k_r, z_push_s, z_push_n, okS_0, okS_I, okS_R, okS_A, List.getElem?_cons_zero, List.getElem?_cons_succ, List.length_cons, List.length_nil, List.set_cons_zero, List.set_cons_succ, true_and, and_true, z_tI, z_tB, pk_mul, nI_add, cI_cl, cI_ix, nar_0, nar_1, nar_b, Nat.reduceAdd, Nat.reduceLT, Nat.reduceMul]
  rw [m_given1 hc hA 25 0 0 (by omega) rfl]
theorem m_usesOf1 (hM : MH I A S) {x : Int32} {s : Nat} (hx : ∀ k, (ce (S.c k) = x) = (S.c k = s)) : ∀ (k i n : Nat), i + k = 25 → z_T g d 164 4 [.ref m, .int x, .int (nI n), .int (nI i)] [] (mw f m I A, q) P = P (.inr (some (.int (nI (n + ct (fun k => decide (S.c k = s)) i k)))), (mw f m I A, q))
  | 0, i, n, h => by
    have : i = 25 := by omega
    subst this
    rw [ze_164_4]
    simp (disch := omega) only [ze_164_0, ze_164_1, ze_164_2, ze_164_3, ze_164_5, ze_164_7, ze_164_10, ze_164_11, ze_164_12, ze_164_15, ze_164_16, ze_164_17, ze_164_18, ze_164_21, ze_164_22, ze_164_25, ze_164_26, ze_164_27, ze_164_28, ze_164_31, ze_164_34, ze_164_35, z_k_r, z_push_s, z_push_n, okS_0, okS_I, okS_R, okS_A, List.getElem?_cons_zero, List.getElem?_cons_succ, List.length_cons, List.length_nil, List.set_cons_zero, List.set_cons_succ, true_and, and_true, z_tI, z_tB, pk_mul, nI_add, cI_cl, cI_ix, nar_0, nar_1, nar_b, Nat.reduceAdd, Nat.reduceLT, Nat.reduceMul, mg_0, mg_1, mg_2, mg_3, mg_4, mg_5, mg_6, mg_7, mg_8, mg_9, mg_10, mg_11, mg_12, mg_13, mg_14, mg_15, mg_16, mg_17, mg_18, mg_19, mg_20, mg_21, mg_22, mg_23, mg_24, mg_25, mg_26, mg_27, mg_28, mp_0, mp_1, mp_2, mp_3, mp_4, mp_5, mp_6, mp_13, mp_14, mp_15, mp_16, mp_17, mp_18, mp_19, mp_20, mp_21, mp_23, mL_1, mL_2, mL_3, mL_4, mL_5, mL_6, mL_7, mL_8, mL_9, mL_10, mL_11, mL_12, mS_1, mS_2, mS_3, mS_4, mS_5, mS_6, mS_7, mS_8, mS_9, mS_10, mS_11, mS_12, m_gO, uA_s, uA_n, cI_lt, cI_eq, if_true, if_false, Nat.lt_irrefl, eq_self, Nat.reduceEqDiff, or_true, true_or, or_false, false_or, not_false_eq_true, not_true_eq_false, ce_5, zb_t, zb_f, ct_z, Nat.add_zero]
  | k + 1, i, n, h => by
    have hi : i < 25 := by omega
    have h5 := hM.2.2.1
    rw [ze_164_4, ct_s]
    simp (disch := omega) only [ze_164_0, ze_164_1, ze_164_2, ze_164_3, ze_164_5, ze_164_7, ze_164_10, ze_164_11, ze_164_12, ze_164_15, ze_164_16, ze_164_17, ze_164_18, ze_164_21, ze_164_22, ze_164_25, ze_164_26, ze_164_27, ze_164_28, ze_164_31, ze_164_34, ze_164_35, z_k_r, z_push_s, z_push_n, okS_0, okS_I, okS_R, okS_A, List.getElem?_cons_zero, List.getElem?_cons_succ, List.length_cons, List.length_nil, List.set_cons_zero, List.set_cons_succ, true_and, and_true, z_tI, z_tB, pk_mul, nI_add, cI_cl, cI_ix, nar_0, nar_1, nar_b, Nat.reduceAdd, Nat.reduceLT, Nat.reduceMul, mg_0, mg_1, mg_2, mg_3, mg_4, mg_5, mg_6, mg_7, mg_8, mg_9, mg_10, mg_11, mg_12, mg_13, mg_14, mg_15, mg_16, mg_17, mg_18, mg_19, mg_20, mg_21, mg_22, mg_23, mg_24, mg_25, mg_26, mg_27, mg_28, mp_0, mp_1, mp_2, mp_3, mp_4, mp_5, mp_6, mp_13, mp_14, mp_15, mp_16, mp_17, mp_18, mp_19, mp_20, mp_21, mp_23, mL_1, mL_2, mL_3, mL_4, mL_5, mL_6, mL_7, mL_8, mL_9, mL_10, mL_11, mL_12, mS_1, mS_2, mS_3, mS_4, mS_5, mS_6, mS_7, mS_8, mS_9, mS_10, mS_11, mS_12, m_gO, uA_s, uA_n, cI_lt, cI_eq, if_true, if_false, Nat.lt_irrefl, eq_self, Nat.reduceEqDiff, or_true, true_or, or_false, false_or, not_false_eq_true, not_true_eq_false, ce_5, zb_t, zb_f, hi, h5, hx]
    by_cases e : S.c i = s
    · simp only [e, if_true, not_true_eq_false, if_false]
      rw [m_usesOf1 hM hx k (i + 1) _ (by omega), decide_true, Bool.toNat_true, Nat.add_assoc]
    · simp only [e, if_true, not_false_eq_true, if_false]
      rw [m_usesOf1 hM hx k (i + 1) _ (by omega), decide_false, Bool.toNat_false, Nat.zero_add, Nat.add_zero]
theorem m_usesOf (hM : MH I A S) {x : Int32} {s : Nat} (hx : ∀ k, (ce (S.c k) = x) = (S.c k = s)) : z_Ca g d 164 [.ref m, .int x] (mw f m I A, q) P = P (.inr (some (.int (nI (ct (fun k => decide (S.c k = s)) 0 25)))), (mw f m I A, q)) := by
  rw [zn_164]
  simp (disch := omega) only [ze_164_0, ze_164_1, ze_164_2, ze_164_3, ze_164_5, ze_164_7, ze_164_10, ze_164_11, ze_164_12, ze_164_15, ze_164_16, ze_164_17, ze_164_18, ze_164_21, ze_164_22, ze_164_25, ze_164_26, ze_164_27, ze_164_28, ze_164_31, ze_164_34, ze_164_35, z_k_r, z_push_s, z_push_n, okS_0, okS_I, okS_R, okS_A, List.getElem?_cons_zero, List.getElem?_cons_succ, List.length_cons, List.length_nil, List.set_cons_zero, List.set_cons_succ, true_and, and_true, z_tI, z_tB, pk_mul, nI_add, cI_cl, cI_ix, nar_0, nar_1, nar_b, Nat.reduceAdd, Nat.reduceLT, Nat.reduceMul]
  rw [m_usesOf1 hM hx 25 0 0 (by omega), Nat.zero_add]
end
