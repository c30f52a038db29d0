/-! the reference: candidates, how many, the lowest -/
def anyB (p : Nat → Bool) : Nat → Bool
  | 0 => false
  | n + 1 => anyB p n || p n
theorem anyB_z (p : Nat → Bool) : anyB p 0 = false := rfl
theorem anyB_s (p : Nat → Bool) (n : Nat) : anyB p (n + 1) = (anyB p n || p n) := rfl
theorem anyB_iff (p : Nat → Bool) : ∀ n, anyB p n = true ↔ ∃ k, k < n ∧ p k = true
  | 0 => by simp [anyB]
  | n + 1 => by
    rw [anyB_s, Bool.or_eq_true, anyB_iff p n]
    constructor
    · rintro (⟨k, h1, h2⟩ | h)
      · exact ⟨k, by omega, h2⟩
      · exact ⟨n, by omega, h⟩
    · rintro ⟨k, h1, h2⟩
      by_cases e : k = n
      · subst e; exact Or.inr h2
      · exact Or.inl ⟨k, by omega, h2⟩
section
variable {g : z_G} {d : Nat} {f : Nat → Option z_C} {h : z_H} {q : Option Nat × Nat × Nat} {P : z_Res → Prop} {m : Nat} {I : Nat → Int32} {A : Nat → Nat → Int32} {S : GS}
theorem m_cand1 (hM : MH I A S) (hd : 1 < d) (hc : ∀ k, S.c k ≤ 5) (hC : S.C ≤ 5) {r j : Nat} (hr : r < 5) (p : Nat → Bool) : ∀ (k i : Nat), i + k = S.C → z_T g d 149 37 [.ref m, .int (nI r), .int (nI j), .int (sS fun t => p t && !anyB (fun x => decide (S.c (r * 5 + x) = t)) i), .int (nI i)] [] (mw f m I A, q) P = z_T g d 149 81 [.ref m, .int (nI r), .int (nI j), .int (sS fun t => p t && !anyB (fun x => decide (S.c (r * 5 + x) = t)) S.C), .int (nI S.C)] [] (mw f m I A, q) P
  | 0, i, h => by
    have : i = S.C := by omega
    subst this
    have h2 := hM.2.1
    rw [ze_149_37]
    simp (disch := omega) only [ze_149_0, ze_149_1, ze_149_2, ze_149_3, ze_149_6, ze_149_7, ze_149_10, ze_149_11, ze_149_12, ze_149_13, ze_149_14, ze_149_17, ze_149_18, ze_149_19, ze_149_20, ze_149_21, ze_149_24, ze_149_25, ze_149_26, ze_149_29, ze_149_30, ze_149_31, ze_149_32, ze_149_33, ze_149_34, ze_149_35, ze_149_39, ze_149_40, ze_149_43, ze_149_46, ze_149_47, ze_149_48, ze_149_49, ze_149_51, ze_149_54, ze_149_55, ze_149_58, ze_149_59, ze_149_62, ze_149_63, ze_149_64, ze_149_65, ze_149_67, ze_149_70, ze_149_71, ze_149_72, ze_149_73, ze_149_74, ze_149_75, ze_149_78, ze_149_82, ze_149_84, ze_149_86, ze_149_87, ze_149_90, ze_149_93, ze_149_94, ze_149_95, ze_149_97, ze_149_98, ze_149_101, ze_149_102, ze_149_105, ze_149_106, ze_149_109, ze_149_110, ze_149_111, ze_149_113, ze_149_114, ze_149_117, ze_149_118, ze_149_119, ze_149_120, ze_149_121, ze_149_122, ze_149_125, ze_149_128, ze_149_129, z_k_r, z_push_s, z_push_n, okS_0, okS_I, okS_R, okS_A, List.getElem?_cons_zero, List.getElem?_cons_succ, List.length_cons, List.length_nil, List.set_cons_zero, List.set_cons_succ, true_and, and_true, z_tI, z_tB, pk_mul, nI_add, cI_cl, cI_ix, nar_0, nar_1, nar_b, Nat.reduceAdd, Nat.reduceLT, Nat.reduceMul, mg_0, mg_1, mg_2, mg_3, mg_4, mg_5, mg_6, mg_7, mg_8, mg_9, mg_10, mg_11, mg_12, mg_13, mg_14, mg_15, mg_16, mg_17, mg_18, mg_19, mg_20, mg_21, mg_22, mg_23, mg_24, mg_25, mg_26, mg_27, mg_28, mp_0, mp_1, mp_2, mp_3, mp_4, mp_5, mp_6, mp_13, mp_14, mp_15, mp_16, mp_17, mp_18, mp_19, mp_20, mp_21, mp_23, mL_1, mL_2, mL_3, mL_4, mL_5, mL_6, mL_7, mL_8, mL_9, mL_10, mL_11, mL_12, mS_1, mS_2, mS_3, mS_4, mS_5, mS_6, mS_7, mS_8, mS_9, mS_10, mS_11, mS_12, m_gO, uA_s, uA_n, cI_lt, cI_eq, if_true, if_false, Nat.lt_irrefl, eq_self, Nat.reduceEqDiff, or_true, true_or, or_false, false_or, not_false_eq_true, not_true_eq_false, ce_5, zb_t, zb_f, h2]
  | k + 1, i, h => by
    have hi : i < S.C := by omega
    have h2 := hM.2.1
    have e5 := ce_em (hc (r * 5 + i))
    have hd0 : 0 < d := by omega
    rw [ze_149_37]
    simp (disch := omega) only [ze_149_0, ze_149_1, ze_149_2, ze_149_3, ze_149_6, ze_149_7, ze_149_10, ze_149_11, ze_149_12, ze_149_13, ze_149_14, ze_149_17, ze_149_18, ze_149_19, ze_149_20, ze_149_21, ze_149_24, ze_149_25, ze_149_26, ze_149_29, ze_149_30, ze_149_31, ze_149_32, ze_149_33, ze_149_34, ze_149_35, ze_149_39, ze_149_40, ze_149_43, ze_149_46, ze_149_47, ze_149_48, ze_149_49, ze_149_51, ze_149_54, ze_149_55, ze_149_58, ze_149_59, ze_149_62, ze_149_63, ze_149_64, ze_149_65, ze_149_67, ze_149_70, ze_149_71, ze_149_72, ze_149_73, ze_149_74, ze_149_75, ze_149_78, ze_149_82, ze_149_84, ze_149_86, ze_149_87, ze_149_90, ze_149_93, ze_149_94, ze_149_95, ze_149_97, ze_149_98, ze_149_101, ze_149_102, ze_149_105, ze_149_106, ze_149_109, ze_149_110, ze_149_111, ze_149_113, ze_149_114, ze_149_117, ze_149_118, ze_149_119, ze_149_120, ze_149_121, ze_149_122, ze_149_125, ze_149_128, ze_149_129, z_k_r, z_push_s, z_push_n, okS_0, okS_I, okS_R, okS_A, List.getElem?_cons_zero, List.getElem?_cons_succ, List.length_cons, List.length_nil, List.set_cons_zero, List.set_cons_succ, true_and, and_true, z_tI, z_tB, pk_mul, nI_add, cI_cl, cI_ix, nar_0, nar_1, nar_b, Nat.reduceAdd, Nat.reduceLT, Nat.reduceMul, mg_0, mg_1, mg_2, mg_3, mg_4, mg_5, mg_6, mg_7, mg_8, mg_9, mg_10, mg_11, mg_12, mg_13, mg_14, mg_15, mg_16, mg_17, mg_18, mg_19, mg_20, mg_21, mg_22, mg_23, mg_24, mg_25, mg_26, mg_27, mg_28, mp_0, mp_1, mp_2, mp_3, mp_4, mp_5, mp_6, mp_13, mp_14, mp_15, mp_16, mp_17, mp_18, mp_19, mp_20, mp_21, mp_23, mL_1, mL_2, mL_3, mL_4, mL_5, mL_6, mL_7, mL_8, mL_9, mL_10, mL_11, mL_12, mS_1, mS_2, mS_3, mS_4, mS_5, mS_6, mS_7, mS_8, mS_9, mS_10, mS_11, mS_12, m_gO, uA_s, uA_n, cI_lt, cI_eq, if_true, if_false, Nat.lt_irrefl, eq_self, Nat.reduceEqDiff, or_true, true_or, or_false, false_or, not_false_eq_true, not_true_eq_false, ce_5, zb_t, zb_f, h2, hi, m_at hM, hd0, e5]
    by_cases e : S.c (r * 5 + i) = 5
    · simp (disch := omega) only [ze_149_0, ze_149_1, ze_149_2, ze_149_3, ze_149_6, ze_149_7, ze_149_10, ze_149_11, ze_149_12, ze_149_13, ze_149_14, ze_149_17, ze_149_18, ze_149_19, ze_149_20, ze_149_21, ze_149_24, ze_149_25, ze_149_26, ze_149_29, ze_149_30, ze_149_31, ze_149_32, ze_149_33, ze_149_34, ze_149_35, ze_149_39, ze_149_40, ze_149_43, ze_149_46, ze_149_47, ze_149_48, ze_149_49, ze_149_51, ze_149_54, ze_149_55, ze_149_58, ze_149_59, ze_149_62, ze_149_63, ze_149_64, ze_149_65, ze_149_67, ze_149_70, ze_149_71, ze_149_72, ze_149_73, ze_149_74, ze_149_75, ze_149_78, ze_149_82, ze_149_84, ze_149_86, ze_149_87, ze_149_90, ze_149_93, ze_149_94, ze_149_95, ze_149_97, ze_149_98, ze_149_101, ze_149_102, ze_149_105, ze_149_106, ze_149_109, ze_149_110, ze_149_111, ze_149_113, ze_149_114, ze_149_117, ze_149_118, ze_149_119, ze_149_120, ze_149_121, ze_149_122, ze_149_125, ze_149_128, ze_149_129, z_k_r, z_push_s, z_push_n, okS_0, okS_I, okS_R, okS_A, List.getElem?_cons_zero, List.getElem?_cons_succ, List.length_cons, List.length_nil, List.set_cons_zero, List.set_cons_succ, true_and, and_true, z_tI, z_tB, pk_mul, nI_add, cI_cl, cI_ix, nar_0, nar_1, nar_b, Nat.reduceAdd, Nat.reduceLT, Nat.reduceMul, e, if_true, not_true_eq_false, if_false, sS_m1]
      rw [← m_cand1 hM hd hc hC hr p k (i + 1) (by omega)]
      rw [sS_congr (q := fun t => p t && !anyB (fun x => decide (S.c (r * 5 + x) = t)) (i + 1))]
      intro t ht
      rw [anyB_s, e]
      have : decide (5 = t) = false := decide_eq_false (by omega)
      rw [this, Bool.or_false]
    · have hs : S.c (r * 5 + i) < 5 := by have := hc (r * 5 + i); omega
      simp (disch := omega) only [ze_149_0, ze_149_1, ze_149_2, ze_149_3, ze_149_6, ze_149_7, ze_149_10, ze_149_11, ze_149_12, ze_149_13, ze_149_14, ze_149_17, ze_149_18, ze_149_19, ze_149_20, ze_149_21, ze_149_24, ze_149_25, ze_149_26, ze_149_29, ze_149_30, ze_149_31, ze_149_32, ze_149_33, ze_149_34, ze_149_35, ze_149_39, ze_149_40, ze_149_43, ze_149_46, ze_149_47, ze_149_48, ze_149_49, ze_149_51, ze_149_54, ze_149_55, ze_149_58, ze_149_59, ze_149_62, ze_149_63, ze_149_64, ze_149_65, ze_149_67, ze_149_70, ze_149_71, ze_149_72, ze_149_73, ze_149_74, ze_149_75, ze_149_78, ze_149_82, ze_149_84, ze_149_86, ze_149_87, ze_149_90, ze_149_93, ze_149_94, ze_149_95, ze_149_97, ze_149_98, ze_149_101, ze_149_102, ze_149_105, ze_149_106, ze_149_109, ze_149_110, ze_149_111, ze_149_113, ze_149_114, ze_149_117, ze_149_118, ze_149_119, ze_149_120, ze_149_121, ze_149_122, ze_149_125, ze_149_128, ze_149_129, z_k_r, z_push_s, z_push_n, okS_0, okS_I, okS_R, okS_A, List.getElem?_cons_zero, List.getElem?_cons_succ, List.length_cons, List.length_nil, List.set_cons_zero, List.set_cons_succ, true_and, and_true, z_tI, z_tB, pk_mul, nI_add, cI_cl, cI_ix, nar_0, nar_1, nar_b, Nat.reduceAdd, Nat.reduceLT, Nat.reduceMul, e, if_true, not_false_eq_true, if_false, m_at hM, hd0, ce_lt hs, sS_one hs, sS_andn]
      rw [← m_cand1 hM hd hc hC hr p k (i + 1) (by omega)]
      rw [sS_congr (q := fun t => p t && !anyB (fun x => decide (S.c (r * 5 + x) = t)) (i + 1))]
      intro t ht
      rw [anyB_s]
      have : decide (t = S.c (r * 5 + i)) = decide (S.c (r * 5 + i) = t) := decide_eq_decide.mpr ⟨Eq.symm, Eq.symm⟩
      rw [this, Bool.not_or, Bool.and_assoc]
theorem m_cand2 (hM : MH I A S) (hd : 1 < d) (hc : ∀ k, S.c k ≤ 5) (hR : S.R ≤ 5) {r j : Nat} (hj : j < 5) (p : Nat → Bool) : ∀ (k i : Nat), i + k = S.R → z_T g d 149 84 [.ref m, .int (nI r), .int (nI j), .int (sS fun t => p t && !anyB (fun x => decide (S.c (x * 5 + j) = t)) i), .int (nI i)] [] (mw f m I A, q) P = P (.inr (some (.int (sS fun t => p t && !anyB (fun x => decide (S.c (x * 5 + j) = t)) S.R))), (mw f m I A, q))
  | 0, i, h => by
    have : i = S.R := by omega
    subst this
    have h2 := hM.1
    rw [ze_149_84]
    simp (disch := omega) only [ze_149_0, ze_149_1, ze_149_2, ze_149_3, ze_149_6, ze_149_7, ze_149_10, ze_149_11, ze_149_12, ze_149_13, ze_149_14, ze_149_17, ze_149_18, ze_149_19, ze_149_20, ze_149_21, ze_149_24, ze_149_25, ze_149_26, ze_149_29, ze_149_30, ze_149_31, ze_149_32, ze_149_33, ze_149_34, ze_149_35, ze_149_37, ze_149_39, ze_149_40, ze_149_43, ze_149_46, ze_149_47, ze_149_48, ze_149_49, ze_149_51, ze_149_54, ze_149_55, ze_149_58, ze_149_59, ze_149_62, ze_149_63, ze_149_64, ze_149_65, ze_149_67, ze_149_70, ze_149_71, ze_149_72, ze_149_73, ze_149_74, ze_149_75, ze_149_78, ze_149_81, ze_149_82, ze_149_86, ze_149_87, ze_149_90, ze_149_93, ze_149_94, ze_149_95, ze_149_97, ze_149_98, ze_149_101, ze_149_102, ze_149_105, ze_149_106, ze_149_109, ze_149_110, ze_149_111, ze_149_113, ze_149_114, ze_149_117, ze_149_118, ze_149_119, ze_149_120, ze_149_121, ze_149_122, ze_149_125, ze_149_128, ze_149_129, z_k_r, z_push_s, z_push_n, okS_0, okS_I, okS_R, okS_A, List.getElem?_cons_zero, List.getElem?_cons_succ, List.length_cons, List.length_nil, List.set_cons_zero, List.set_cons_succ, true_and, and_true, z_tI, z_tB, pk_mul, nI_add, cI_cl, cI_ix, nar_0, nar_1, nar_b, Nat.reduceAdd, Nat.reduceLT, Nat.reduceMul, mg_0, mg_1, mg_2, mg_3, mg_4, mg_5, mg_6, mg_7, mg_8, mg_9, mg_10, mg_11, mg_12, mg_13, mg_14, mg_15, mg_16, mg_17, mg_18, mg_19, mg_20, mg_21, mg_22, mg_23, mg_24, mg_25, mg_26, mg_27, mg_28, mp_0, mp_1, mp_2, mp_3, mp_4, mp_5, mp_6, mp_13, mp_14, mp_15, mp_16, mp_17, mp_18, mp_19, mp_20, mp_21, mp_23, mL_1, mL_2, mL_3, mL_4, mL_5, mL_6, mL_7, mL_8, mL_9, mL_10, mL_11, mL_12, mS_1, mS_2, mS_3, mS_4, mS_5, mS_6, mS_7, mS_8, mS_9, mS_10, mS_11, mS_12, m_gO, uA_s, uA_n, cI_lt, cI_eq, if_true, if_false, Nat.lt_irrefl, eq_self, Nat.reduceEqDiff, or_true, true_or, or_false, false_or, not_false_eq_true, not_true_eq_false, ce_5, zb_t, zb_f, h2]
  | k + 1, i, h => by
    have hi : i < S.R := by omega
    have h2 := hM.1
    have e5 := ce_em (hc (i * 5 + j))
    have hd0 : 0 < d := by omega
    rw [ze_149_84]
    simp (disch := omega) only [ze_149_0, ze_149_1, ze_149_2, ze_149_3, ze_149_6, ze_149_7, ze_149_10, ze_149_11, ze_149_12, ze_149_13, ze_149_14, ze_149_17, ze_149_18, ze_149_19, ze_149_20, ze_149_21, ze_149_24, ze_149_25, ze_149_26, ze_149_29, ze_149_30, ze_149_31, ze_149_32, ze_149_33, ze_149_34, ze_149_35, ze_149_37, ze_149_39, ze_149_40, ze_149_43, ze_149_46, ze_149_47, ze_149_48, ze_149_49, ze_149_51, ze_149_54, ze_149_55, ze_149_58, ze_149_59, ze_149_62, ze_149_63, ze_149_64, ze_149_65, ze_149_67, ze_149_70, ze_149_71, ze_149_72, ze_149_73, ze_149_74, ze_149_75, ze_149_78, ze_149_81, ze_149_82, ze_149_86, ze_149_87, ze_149_90, ze_149_93, ze_149_94, ze_149_95, ze_149_97, ze_149_98, ze_149_101, ze_149_102, ze_149_105, ze_149_106, ze_149_109, ze_149_110, ze_149_111, ze_149_113, ze_149_114, ze_149_117, ze_149_118, ze_149_119, ze_149_120, ze_149_121, ze_149_122, ze_149_125, ze_149_128, ze_149_129, z_k_r, z_push_s, z_push_n, okS_0, okS_I, okS_R, okS_A, List.getElem?_cons_zero, List.getElem?_cons_succ, List.length_cons, List.length_nil, List.set_cons_zero, List.set_cons_succ, true_and, and_true, z_tI, z_tB, pk_mul, nI_add, cI_cl, cI_ix, nar_0, nar_1, nar_b, Nat.reduceAdd, Nat.reduceLT, Nat.reduceMul, mg_0, mg_1, mg_2, mg_3, mg_4, mg_5, mg_6, mg_7, mg_8, mg_9, mg_10, mg_11, mg_12, mg_13, mg_14, mg_15, mg_16, mg_17, mg_18, mg_19, mg_20, mg_21, mg_22, mg_23, mg_24, mg_25, mg_26, mg_27, mg_28, mp_0, mp_1, mp_2, mp_3, mp_4, mp_5, mp_6, mp_13, mp_14, mp_15, mp_16, mp_17, mp_18, mp_19, mp_20, mp_21, mp_23, mL_1, mL_2, mL_3, mL_4, mL_5, mL_6, mL_7, mL_8, mL_9, mL_10, mL_11, mL_12, mS_1, mS_2, mS_3, mS_4, mS_5, mS_6, mS_7, mS_8, mS_9, mS_10, mS_11, mS_12, m_gO, uA_s, uA_n, cI_lt, cI_eq, if_true, if_false, Nat.lt_irrefl, eq_self, Nat.reduceEqDiff, or_true, true_or, or_false, false_or, not_false_eq_true, not_true_eq_false, ce_5, zb_t, zb_f, h2, hi, m_at hM, hd0, e5]
    by_cases e : S.c (i * 5 + j) = 5
    · simp (disch := omega) only [ze_149_0, ze_149_1, ze_149_2, ze_149_3, ze_149_6, ze_149_7, ze_149_10, ze_149_11, ze_149_12, ze_149_13, ze_149_14, ze_149_17, ze_149_18, ze_149_19, ze_149_20, ze_149_21, ze_149_24, ze_149_25, ze_149_26, ze_149_29, ze_149_30, ze_149_31, ze_149_32, ze_149_33, ze_149_34, ze_149_35, ze_149_37, ze_149_39, ze_149_40, ze_149_43, ze_149_46, ze_149_47, ze_149_48, ze_149_49, ze_149_51, ze_149_54, ze_149_55, ze_149_58, ze_149_59, ze_149_62, ze_149_63, ze_149_64, ze_149_65, ze_149_67, ze_149_70, ze_149_71, ze_149_72, ze_149_73, ze_149_74, ze_149_75, ze_149_78, ze_149_81, ze_149_82, ze_149_86, ze_149_87, ze_149_90, ze_149_93, ze_149_94, ze_149_95, ze_149_97, ze_149_98, ze_149_101, ze_149_102, ze_149_105, ze_149_106, ze_149_109, ze_149_110, ze_149_111, ze_149_113, ze_149_114, ze_149_117, ze_149_118, ze_149_119, ze_149_120, ze_149_121, ze_149_122, ze_149_125, ze_149_128, ze_149_129, z_k_r, z_push_s, z_push_n, okS_0, okS_I, okS_R, okS_A, List.getElem?_cons_zero, List.getElem?_cons_succ, List.length_cons, List.length_nil, List.set_cons_zero, List.set_cons_succ, true_and, and_true, z_tI, z_tB, pk_mul, nI_add, cI_cl, cI_ix, nar_0, nar_1, nar_b, Nat.reduceAdd, Nat.reduceLT, Nat.reduceMul, e, if_true, not_true_eq_false, if_false, sS_m1]
      rw [← m_cand2 hM hd hc hR hj p k (i + 1) (by omega)]
      rw [sS_congr (q := fun t => p t && !anyB (fun x => decide (S.c (x * 5 + j) = t)) (i + 1))]
      intro t ht
      rw [anyB_s, e]
      have : decide (5 = t) = false := decide_eq_false (by omega)
      rw [this, Bool.or_false]
    · have hs : S.c (i * 5 + j) < 5 := by have := hc (i * 5 + j); omega
      simp (disch := omega) only [ze_149_0, ze_149_1, ze_149_2, ze_149_3, ze_149_6, ze_149_7, ze_149_10, ze_149_11, ze_149_12, ze_149_13, ze_149_14, ze_149_17, ze_149_18, ze_149_19, ze_149_20, ze_149_21, ze_149_24, ze_149_25, ze_149_26, ze_149_29, ze_149_30, ze_149_31, ze_149_32, ze_149_33, ze_149_34, ze_149_35, ze_149_37, ze_149_39, ze_149_40, ze_149_43, ze_149_46, ze_149_47, ze_149_48, ze_149_49, ze_149_51, ze_149_54, ze_149_55, ze_149_58, ze_149_59, ze_149_62, ze_149_63, ze_149_64, ze_149_65, ze_149_67, ze_149_70, ze_149_71, ze_149_72, ze_149_73, ze_149_74, ze_149_75, ze_149_78, ze_149_81, ze_149_82, ze_149_86, ze_149_87, ze_149_90, ze_149_93, ze_149_94, ze_149_95, ze_149_97, ze_149_98, ze_149_101, ze_149_102, ze_149_105, ze_149_106, ze_149_109, ze_149_110, ze_149_111, ze_149_113, ze_149_114, ze_149_117, ze_149_118, ze_149_119, ze_149_120, ze_149_121, ze_149_122, ze_149_125, ze_149_128, ze_149_129, z_k_r, z_push_s, z_push_n, okS_0, okS_I, okS_R, okS_A, List.getElem?_cons_zero, List.getElem?_cons_succ, List.length_cons, List.length_nil, List.set_cons_zero, List.set_cons_succ, true_and, and_true, z_tI, z_tB, pk_mul, nI_add, cI_cl, cI_ix, nar_0, nar_1, nar_b, Nat.reduceAdd, Nat.reduceLT, Nat.reduceMul, e, if_true, not_false_eq_true, if_false, m_at hM, hd0, ce_lt hs, sS_one hs, sS_andn]
      rw [← m_cand2 hM hd hc hR hj p k (i + 1) (by omega)]
      rw [sS_congr (q := fun t => p t && !anyB (fun x => decide (S.c (x * 5 + j) = t)) (i + 1))]
      intro t ht
      rw [anyB_s]
      have : decide (t = S.c (i * 5 + j)) = decide (S.c (i * 5 + j) = t) := decide_eq_decide.mpr ⟨Eq.symm, Eq.symm⟩
      rw [this, Bool.not_or, Bool.and_assoc]
theorem rU_any (hg : GI S) {r t : Nat} (hr : r < 5) (ht : t < 5) : anyB (fun x => decide (S.c (r * 5 + x) = t)) S.C = rU S.c r t := by
  apply b_ext2
  rw [anyB_iff, rU_iff]
  constructor
  · rintro ⟨k, h1, h2⟩
    exact ⟨k, by have := hg.C5; omega, of_decide_eq_true h2⟩
  · rintro ⟨k, h1, h2⟩
    refine ⟨k, ?_, decide_eq_true h2⟩
    apply Classical.byContradiction
    intro e
    rw [hg.out r k hr h1 (Or.inr (by omega))] at h2
    omega
theorem cU_any (hg : GI S) {j t : Nat} (hj : j < 5) (ht : t < 5) : anyB (fun x => decide (S.c (x * 5 + j) = t)) S.R = cU S.c j t := by
  apply b_ext2
  rw [anyB_iff, cU_iff]
  constructor
  · rintro ⟨k, h1, h2⟩
    exact ⟨hj, k, by have := hg.C5; have := hg.RC; omega, of_decide_eq_true h2⟩
  · rintro ⟨_, k, h1, h2⟩
    refine ⟨k, ?_, decide_eq_true h2⟩
    apply Classical.byContradiction
    intro e
    rw [hg.out k j h1 hj (Or.inl (by omega))] at h2
    omega
theorem m_cand (hM : MH I A S) (hg : GI S) (hd : 1 < d) {r j : Nat} (hr : r < 5) (hj : j < 5) : z_Ca g d 149 [.ref m, .int (nI r), .int (nI j)] (mw f m I A, q) P = P (.inr (some (.int (sS (S.cd r j)))), (mw f m I A, q)) := by
  have hc := hg.c5
  have hC := hg.C5
  have hRC := hg.RC
  have hR : S.R ≤ 5 := by omega
  have hd0 : 0 < d := by omega
  have h2 := hM.2.1
  have h4 := hM.2.2.2
  have e5 := ce_em (hc (r * 5 + j))
  rw [zn_149]
  simp (disch := omega) only [ze_149_0, ze_149_1, ze_149_2, ze_149_3, ze_149_6, ze_149_7, ze_149_10, ze_149_11, ze_149_12, ze_149_13, ze_149_14, ze_149_17, ze_149_18, ze_149_19, ze_149_20, ze_149_21, ze_149_24, ze_149_25, ze_149_26, ze_149_29, ze_149_30, ze_149_31, ze_149_32, ze_149_33, ze_149_34, ze_149_35, ze_149_39, ze_149_40, ze_149_43, ze_149_46, ze_149_47, ze_149_48, ze_149_49, ze_149_51, ze_149_54, ze_149_55, ze_149_58, ze_149_59, ze_149_62, ze_149_63, ze_149_64, ze_149_65, ze_149_67, ze_149_70, ze_149_71, ze_149_72, ze_149_73, ze_149_74, ze_149_75, ze_149_78, ze_149_82, ze_149_86, ze_149_87, ze_149_90, ze_149_93, ze_149_94, ze_149_95, ze_149_97, ze_149_98, ze_149_101, ze_149_102, ze_149_105, ze_149_106, ze_149_109, ze_149_110, ze_149_111, ze_149_113, ze_149_114, ze_149_117, ze_149_118, ze_149_119, ze_149_120, ze_149_121, ze_149_122, ze_149_125, ze_149_128, ze_149_129, z_k_r, z_push_s, z_push_n, okS_0, okS_I, okS_R, okS_A, List.getElem?_cons_zero, List.getElem?_cons_succ, List.length_cons, List.length_nil, List.set_cons_zero, List.set_cons_succ, true_and, and_true, z_tI, z_tB, pk_mul, nI_add, cI_cl, cI_ix, nar_0, nar_1, nar_b, Nat.reduceAdd, Nat.reduceLT, Nat.reduceMul, mg_0, mg_1, mg_2, mg_3, mg_4, mg_5, mg_6, mg_7, mg_8, mg_9, mg_10, mg_11, mg_12, mg_13, mg_14, mg_15, mg_16, mg_17, mg_18, mg_19, mg_20, mg_21, mg_22, mg_23, mg_24, mg_25, mg_26, mg_27, mg_28, mp_0, mp_1, mp_2, mp_3, mp_4, mp_5, mp_6, mp_13, mp_14, mp_15, mp_16, mp_17, mp_18, mp_19, mp_20, mp_21, mp_23, mL_1, mL_2, mL_3, mL_4, mL_5, mL_6, mL_7, mL_8, mL_9, mL_10, mL_11, mL_12, mS_1, mS_2, mS_3, mS_4, mS_5, mS_6, mS_7, mS_8, mS_9, mS_10, mS_11, mS_12, m_gO, uA_s, uA_n, cI_lt, cI_eq, if_true, if_false, Nat.lt_irrefl, eq_self, Nat.reduceEqDiff, or_true, true_or, or_false, false_or, not_false_eq_true, not_true_eq_false, ce_5, zb_t, zb_f, m_at hM, hd0, e5]
  by_cases e : S.c (r * 5 + j) = 5
  · simp (disch := omega) only [ze_149_0, ze_149_1, ze_149_2, ze_149_3, ze_149_6, ze_149_7, ze_149_10, ze_149_11, ze_149_12, ze_149_13, ze_149_14, ze_149_17, ze_149_18, ze_149_19, ze_149_20, ze_149_21, ze_149_24, ze_149_25, ze_149_26, ze_149_29, ze_149_30, ze_149_31, ze_149_32, ze_149_33, ze_149_34, ze_149_35, ze_149_39, ze_149_40, ze_149_43, ze_149_46, ze_149_47, ze_149_48, ze_149_49, ze_149_51, ze_149_54, ze_149_55, ze_149_58, ze_149_59, ze_149_62, ze_149_63, ze_149_64, ze_149_65, ze_149_67, ze_149_70, ze_149_71, ze_149_72, ze_149_73, ze_149_74, ze_149_75, ze_149_78, ze_149_82, ze_149_86, ze_149_87, ze_149_90, ze_149_93, ze_149_94, ze_149_95, ze_149_97, ze_149_98, ze_149_101, ze_149_102, ze_149_105, ze_149_106, ze_149_109, ze_149_110, ze_149_111, ze_149_113, ze_149_114, ze_149_117, ze_149_118, ze_149_119, ze_149_120, ze_149_121, ze_149_122, ze_149_125, ze_149_128, ze_149_129, z_k_r, z_push_s, z_push_n, okS_0, okS_I, okS_R, okS_A, List.getElem?_cons_zero, List.getElem?_cons_succ, List.length_cons, List.length_nil, List.set_cons_zero, List.set_cons_succ, true_and, and_true, z_tI, z_tB, pk_mul, nI_add, cI_cl, cI_ix, nar_0, nar_1, nar_b, Nat.reduceAdd, Nat.reduceLT, Nat.reduceMul, mg_0, mg_1, mg_2, mg_3, mg_4, mg_5, mg_6, mg_7, mg_8, mg_9, mg_10, mg_11, mg_12, mg_13, mg_14, mg_15, mg_16, mg_17, mg_18, mg_19, mg_20, mg_21, mg_22, mg_23, mg_24, mg_25, mg_26, mg_27, mg_28, mp_0, mp_1, mp_2, mp_3, mp_4, mp_5, mp_6, mp_13, mp_14, mp_15, mp_16, mp_17, mp_18, mp_19, mp_20, mp_21, mp_23, mL_1, mL_2, mL_3, mL_4, mL_5, mL_6, mL_7, mL_8, mL_9, mL_10, mL_11, mL_12, mS_1, mS_2, mS_3, mS_4, mS_5, mS_6, mS_7, mS_8, mS_9, mS_10, mS_11, mS_12, m_gO, uA_s, uA_n, e, if_true, not_true_eq_false, if_false, m_cell, h2, h4, hd0, sS_full hC, sS_andn]
    have l1 := m_cand1 (g := g) (f := f) (q := q) (P := P) (m := m) (j := j) hM hd hc hC hr (fun s => decide (s < S.C) && !S.b (r * 5 + j) s) S.C 0 (by omega)
    simp only [anyB_z, Bool.not_false, Bool.and_true] at l1
    rw [l1]
    simp (disch := omega) only [ze_149_0, ze_149_1, ze_149_2, ze_149_3, ze_149_6, ze_149_7, ze_149_10, ze_149_11, ze_149_12, ze_149_13, ze_149_14, ze_149_17, ze_149_18, ze_149_19, ze_149_20, ze_149_21, ze_149_24, ze_149_25, ze_149_26, ze_149_29, ze_149_30, ze_149_31, ze_149_32, ze_149_33, ze_149_34, ze_149_35, ze_149_39, ze_149_40, ze_149_43, ze_149_46, ze_149_47, ze_149_48, ze_149_49, ze_149_51, ze_149_54, ze_149_55, ze_149_58, ze_149_59, ze_149_62, ze_149_63, ze_149_64, ze_149_65, ze_149_67, ze_149_70, ze_149_71, ze_149_72, ze_149_73, ze_149_74, ze_149_75, ze_149_78, ze_149_81, ze_149_82, ze_149_86, ze_149_87, ze_149_90, ze_149_93, ze_149_94, ze_149_95, ze_149_97, ze_149_98, ze_149_101, ze_149_102, ze_149_105, ze_149_106, ze_149_109, ze_149_110, ze_149_111, ze_149_113, ze_149_114, ze_149_117, ze_149_118, ze_149_119, ze_149_120, ze_149_121, ze_149_122, ze_149_125, ze_149_128, ze_149_129, z_k_r, z_push_s, z_push_n, okS_0, okS_I, okS_R, okS_A, List.getElem?_cons_zero, List.getElem?_cons_succ, List.length_cons, List.length_nil, List.set_cons_zero, List.set_cons_succ, true_and, and_true, z_tI, z_tB, pk_mul, nI_add, cI_cl, cI_ix, nar_0, nar_1, nar_b, Nat.reduceAdd, Nat.reduceLT, Nat.reduceMul]
    have l2 := m_cand2 (g := g) (f := f) (q := q) (P := P) (m := m) (r := r) hM hd hc hR hj (fun s => (decide (s < S.C) && !S.b (r * 5 + j) s) && !anyB (fun x => decide (S.c (r * 5 + x) = s)) S.C) S.R 0 (by omega)
    simp only [anyB_z, Bool.not_false, Bool.and_true] at l2
    rw [l2]
    rw [sS_congr (q := S.cd r j)]
    intro t ht
    rw [rU_any hg hr ht, cU_any hg hj ht]
    unfold GS.cd
    rw [decide_eq_true e, Bool.and_true]
    cases decide (t < S.C) <;> cases S.b (r * 5 + j) t <;> cases rU S.c r t <;> cases cU S.c j t <;> rfl
  · simp (disch := omega) only [ze_149_0, ze_149_1, ze_149_2, ze_149_3, ze_149_6, ze_149_7, ze_149_10, ze_149_11, ze_149_12, ze_149_13, ze_149_14, ze_149_17, ze_149_18, ze_149_19, ze_149_20, ze_149_21, ze_149_24, ze_149_25, ze_149_26, ze_149_29, ze_149_30, ze_149_31, ze_149_32, ze_149_33, ze_149_34, ze_149_35, ze_149_39, ze_149_40, ze_149_43, ze_149_46, ze_149_47, ze_149_48, ze_149_49, ze_149_51, ze_149_54, ze_149_55, ze_149_58, ze_149_59, ze_149_62, ze_149_63, ze_149_64, ze_149_65, ze_149_67, ze_149_70, ze_149_71, ze_149_72, ze_149_73, ze_149_74, ze_149_75, ze_149_78, ze_149_82, ze_149_86, ze_149_87, ze_149_90, ze_149_93, ze_149_94, ze_149_95, ze_149_97, ze_149_98, ze_149_101, ze_149_102, ze_149_105, ze_149_106, ze_149_109, ze_149_110, ze_149_111, ze_149_113, ze_149_114, ze_149_117, ze_149_118, ze_149_119, ze_149_120, ze_149_121, ze_149_122, ze_149_125, ze_149_128, ze_149_129, z_k_r, z_push_s, z_push_n, okS_0, okS_I, okS_R, okS_A, List.getElem?_cons_zero, List.getElem?_cons_succ, List.length_cons, List.length_nil, List.set_cons_zero, List.set_cons_succ, true_and, and_true, z_tI, z_tB, pk_mul, nI_add, cI_cl, cI_ix, nar_0, nar_1, nar_b, Nat.reduceAdd, Nat.reduceLT, Nat.reduceMul, e, if_true, not_false_eq_true, if_false]
    rw [sS_0, sS_congr (q := S.cd r j)]
    intro t ht
    unfold GS.cd
    rw [decide_eq_false e, Bool.and_false]
    rfl
/-- the number of a set's symbols -/
def pop (p : Nat → Bool) : Nat := (p 0).toNat + (p 1).toNat + (p 2).toNat + (p 3).toNat + (p 4).toNat
def popc (m : Nat) : Nat := m % 2 + m / 2 % 2 + m / 4 % 2 + m / 8 % 2 + m / 16 % 2
theorem popc_m5 (p : Nat → Bool) : popc (m5 p) = pop p := by
  have : ∀ a b c d e : Bool, popc (m5b a b c d e) = a.toNat + b.toNat + c.toNat + d.toNat + e.toNat := by decide +kernel
  exact this _ _ _ _ _
theorem many_step : ∀ k, k < 32 → k ≠ 0 → nI k &&& (nI k - nI 1) = nI (k &&& (k - 1)) ∧ (k &&& (k - 1)) < k ∧ popc (k &&& (k - 1)) + 1 = popc k := by decide +kernel
theorem m_many1 (v : Int32) : ∀ (n k c : Nat), k ≤ n → k < 32 → z_T g d 150 4 [.int v, .int (nI c), .int (nI k)] [] h P = P (.inr (some (.int (nI (c + popc k)))), h)
  | 0, k, c, h1, h2 => by
    have : k = 0 := by omega
    subst this
    rw [ze_150_4]
    simp (disch := omega) only [ze_150_0, ze_150_1, ze_150_2, ze_150_3, ze_150_5, ze_150_8, ze_150_11, ze_150_12, ze_150_13, ze_150_14, ze_150_15, ze_150_16, ze_150_17, ze_150_20, ze_150_21, z_k_r, z_push_s, z_push_n, okS_0, okS_I, okS_R, okS_A, List.getElem?_cons_zero, List.getElem?_cons_succ, List.length_cons, List.length_nil, List.set_cons_zero, List.set_cons_succ, true_and, and_true, z_tI, z_tB, pk_mul, nI_add, cI_cl, cI_ix, nar_0, nar_1, nar_b, Nat.reduceAdd, Nat.reduceLT, Nat.reduceMul, cI_lt, cI_eq, if_true, if_false, Nat.lt_irrefl, eq_self, Nat.reduceEqDiff, or_true, true_or, or_false, false_or, not_false_eq_true, not_true_eq_false, ce_5, zb_t, zb_f]
    rfl
  | n + 1, k, c, h1, h2 => by
    by_cases e : k = 0
    · subst e
      rw [ze_150_4]
      simp (disch := omega) only [ze_150_0, ze_150_1, ze_150_2, ze_150_3, ze_150_5, ze_150_8, ze_150_11, ze_150_12, ze_150_13, ze_150_14, ze_150_15, ze_150_16, ze_150_17, ze_150_20, ze_150_21, z_k_r, z_push_s, z_push_n, okS_0, okS_I, okS_R, okS_A, List.getElem?_cons_zero, List.getElem?_cons_succ, List.length_cons, List.length_nil, List.set_cons_zero, List.set_cons_succ, true_and, and_true, z_tI, z_tB, pk_mul, nI_add, cI_cl, cI_ix, nar_0, nar_1, nar_b, Nat.reduceAdd, Nat.reduceLT, Nat.reduceMul, cI_lt, cI_eq, if_true, if_false, Nat.lt_irrefl, eq_self, Nat.reduceEqDiff, or_true, true_or, or_false, false_or, not_false_eq_true, not_true_eq_false, ce_5, zb_t, zb_f]
      rfl
    · obtain ⟨s1, s2, s3⟩ := many_step k h2 e
      rw [ze_150_4]
      simp (disch := omega) only [ze_150_0, ze_150_1, ze_150_2, ze_150_3, ze_150_5, ze_150_8, ze_150_11, ze_150_12, ze_150_13, ze_150_14, ze_150_15, ze_150_16, ze_150_17, ze_150_20, ze_150_21, z_k_r, z_push_s, z_push_n, okS_0, okS_I, okS_R, okS_A, List.getElem?_cons_zero, List.getElem?_cons_succ, List.length_cons, List.length_nil, List.set_cons_zero, List.set_cons_succ, true_and, and_true, z_tI, z_tB, pk_mul, nI_add, cI_cl, cI_ix, nar_0, nar_1, nar_b, Nat.reduceAdd, Nat.reduceLT, Nat.reduceMul, cI_lt, cI_eq, if_true, if_false, Nat.lt_irrefl, eq_self, Nat.reduceEqDiff, or_true, true_or, or_false, false_or, not_false_eq_true, not_true_eq_false, ce_5, zb_t, zb_f, e, s1]
      rw [m_many1 v n _ _ (by omega) (by omega), Nat.add_assoc, Nat.add_comm 1, s3]
theorem m_many (p : Nat → Bool) : z_Ca g d 150 [.int (sS p)] h P = P (.inr (some (.int (nI (pop p)))), h) := by
  rw [zn_150]
  simp (disch := omega) only [ze_150_0, ze_150_1, ze_150_2, ze_150_3, ze_150_5, ze_150_8, ze_150_11, ze_150_12, ze_150_13, ze_150_14, ze_150_15, ze_150_16, ze_150_17, ze_150_20, ze_150_21, z_k_r, z_push_s, z_push_n, okS_0, okS_I, okS_R, okS_A, List.getElem?_cons_zero, List.getElem?_cons_succ, List.length_cons, List.length_nil, List.set_cons_zero, List.set_cons_succ, true_and, and_true, z_tI, z_tB, pk_mul, nI_add, cI_cl, cI_ix, nar_0, nar_1, nar_b, Nat.reduceAdd, Nat.reduceLT, Nat.reduceMul]
  unfold sS
  rw [m_many1 _ 32 _ 0 (by have := m5_lt p; omega) (m5_lt p), popc_m5, Nat.zero_add]
/-- the lowest symbol of a set that has one -/
def low (p : Nat → Bool) : Nat := if p 0 then 0 else if p 1 then 1 else if p 2 then 2 else if p 3 then 3 else if p 4 then 4 else 5
theorem low_sp {p : Nat → Bool} (h : low p ≠ 5) : low p < 5 ∧ p (low p) = true ∧ ∀ i, i < low p → p i = false := by
  unfold low at h ⊢
  by_cases e0 : p 0 = true
  · simp only [e0, if_true]; exact ⟨by omega, trivial, fun i hi => by omega⟩
  · by_cases e1 : p 1 = true
    · simp only [e0, e1, if_true, if_false, Bool.false_eq_true]; exact ⟨by omega, trivial, fun i hi => by rw [show i = 0 by omega]; simpa using e0⟩
    · by_cases e2 : p 2 = true
      · simp only [e0, e1, e2, if_true, if_false, Bool.false_eq_true]; exact ⟨by omega, trivial, fun i hi => by rcases (show i = 0 ∨ i = 1 by omega) with rfl | rfl <;> simp_all⟩
      · by_cases e3 : p 3 = true
        · simp only [e0, e1, e2, e3, if_true, if_false, Bool.false_eq_true]; exact ⟨by omega, trivial, fun i hi => by rcases (show i = 0 ∨ i = 1 ∨ i = 2 by omega) with rfl | rfl | rfl <;> simp_all⟩
        · by_cases e4 : p 4 = true
          · simp only [e0, e1, e2, e3, e4, if_true, if_false, Bool.false_eq_true]; exact ⟨by omega, trivial, fun i hi => by rcases (show i = 0 ∨ i = 1 ∨ i = 2 ∨ i = 3 by omega) with rfl | rfl | rfl | rfl <;> simp_all⟩
          · simp [e0, e1, e2, e3, e4] at h
theorem m_low1 {p : Nat → Bool} (hp : low p ≠ 5) : ∀ (k i : Nat), i + k = low p → z_T g d 151 2 [.int (sS p), .int (nI i)] [] h P = P (.inr (some (.int (nI (low p)))), h)
  | 0, i, h => by
    obtain ⟨l1, l2, l3⟩ := low_sp hp
    have : i = low p := by omega
    subst this
    rw [ze_151_2]
    simp (disch := omega) only [ze_151_0, ze_151_1, ze_151_3, ze_151_4, ze_151_5, ze_151_6, ze_151_7, ze_151_10, ze_151_13, ze_151_16, ze_151_17, z_k_r, z_push_s, z_push_n, okS_0, okS_I, okS_R, okS_A, List.getElem?_cons_zero, List.getElem?_cons_succ, List.length_cons, List.length_nil, List.set_cons_zero, List.set_cons_succ, true_and, and_true, z_tI, z_tB, pk_mul, nI_add, cI_cl, cI_ix, nar_0, nar_1, nar_b, Nat.reduceAdd, Nat.reduceLT, Nat.reduceMul, cI_lt, cI_eq, if_true, if_false, Nat.lt_irrefl, eq_self, Nat.reduceEqDiff, or_true, true_or, or_false, false_or, not_false_eq_true, not_true_eq_false, ce_5, zb_t, zb_f, sS_bit, l2, Bool.true_eq_false, Nat.succ_ne_self, Nat.reduceEqDiff]
  | k + 1, i, h => by
    obtain ⟨l1, l2, l3⟩ := low_sp hp
    rw [ze_151_2]
    simp (disch := omega) only [ze_151_0, ze_151_1, ze_151_3, ze_151_4, ze_151_5, ze_151_6, ze_151_7, ze_151_10, ze_151_13, ze_151_16, ze_151_17, z_k_r, z_push_s, z_push_n, okS_0, okS_I, okS_R, okS_A, List.getElem?_cons_zero, List.getElem?_cons_succ, List.length_cons, List.length_nil, List.set_cons_zero, List.set_cons_succ, true_and, and_true, z_tI, z_tB, pk_mul, nI_add, cI_cl, cI_ix, nar_0, nar_1, nar_b, Nat.reduceAdd, Nat.reduceLT, Nat.reduceMul, cI_lt, cI_eq, if_true, if_false, Nat.lt_irrefl, eq_self, Nat.reduceEqDiff, or_true, true_or, or_false, false_or, not_false_eq_true, not_true_eq_false, ce_5, zb_t, zb_f, sS_bit, l3]
    rw [m_low1 hp k (i + 1) (by omega)]
theorem m_low {p : Nat → Bool} (hp : low p ≠ 5) : z_Ca g d 151 [.int (sS p)] h P = P (.inr (some (.int (nI (low p)))), h) := by
  rw [zn_151]
  simp (disch := omega) only [ze_151_0, ze_151_1, ze_151_3, ze_151_4, ze_151_5, ze_151_6, ze_151_7, ze_151_10, ze_151_13, ze_151_16, ze_151_17, z_k_r, z_push_s, z_push_n, okS_0, okS_I, okS_R, okS_A, List.getElem?_cons_zero, List.getElem?_cons_succ, List.length_cons, List.length_nil, List.set_cons_zero, List.set_cons_succ, true_and, and_true, z_tI, z_tB, pk_mul, nI_add, cI_cl, cI_ix, nar_0, nar_1, nar_b, Nat.reduceAdd, Nat.reduceLT, Nat.reduceMul]
  rw [m_low1 hp (low p) 0 (by omega)]
end
