/-! the law's Grid: what a cell can have, full rows, what is filled -/
def aF (p : Nat → Bool) : Nat → Nat → Bool
  | _, 0 => false
  | i, k + 1 => p i || aF p (i + 1) k
theorem aF_z (p : Nat → Bool) (i : Nat) : aF p i 0 = false := rfl
theorem aF_s (p : Nat → Bool) (i k : Nat) : aF p i (k + 1) = (p i || aF p (i + 1) k) := rfl
theorem aF_iff (p : Nat → Bool) : ∀ (k i : Nat), aF p i k = true ↔ ∃ j, i ≤ j ∧ j < i + k ∧ p j = true
  | 0, i => ⟨fun h => (by cases h), fun ⟨j, a, b, _⟩ => absurd b (by omega)⟩
  | k + 1, i => by
    rw [aF_s, Bool.or_eq_true, aF_iff p k (i + 1)]
    constructor
    · rintro (h | ⟨j, a, b, c⟩)
      · exact ⟨i, Nat.le_refl _, by omega, h⟩
      · exact ⟨j, by omega, by omega, c⟩
    · rintro ⟨j, a, b, c⟩
      by_cases e : j = i
      · exact .inl (e ▸ c)
      · exact .inr ⟨j, by omega, by omega, c⟩
theorem aF_any (p : Nat → Bool) (n : Nat) : aF p 0 n = anyB p n := by
  refine b_ext2 ?_
  rw [aF_iff, anyB_iff]
  exact ⟨fun ⟨j, _, b, c⟩ => ⟨j, by omega, c⟩, fun ⟨j, b, c⟩ => ⟨j, Nat.zero_le _, by omega, c⟩⟩
theorem ce_neg {n : Nat} (h : n ≤ 5) : (ce n < nI 0) = (n = 5) := by
  rcases (show n = 0 ∨ n = 1 ∨ n = 2 ∨ n = 3 ∨ n = 4 ∨ n = 5 by omega) with rfl | rfl | rfl | rfl | rfl | rfl <;> decide
section
variable {g : z_G} {d : Nat} {f : Nat → Option z_C} {q : Option Nat × Nat × Nat} {P : z_Res → Prop} {Q : Nat} {S : GS} {X : LX}
theorem l_can1 (hR : S.R ≤ 5) (hC : S.C ≤ 5) (hc : ∀ k, S.c k ≤ 5) {r j s : Nat} (hr : r < S.R) (hs : s < 5) : ∀ (k i : Nat), i + k = S.C → z_T g d 95 29 [.ref Q, .int (nI r), .int (nI j), .int (nI s), .int (nI i)] [] (lgw f Q S X, q) P = if aF (fun x => decide (S.c (r * 5 + x) = s)) i k = true then P (.inr (some (.int (nI 0))), (lgw f Q S X, q)) else z_T g d 95 59 [.ref Q, .int (nI r), .int (nI j), .int (nI s), .int (nI S.C)] [] (lgw f Q S X, q) P
  | 0, i, h => by
    have : i = S.C := by omega
    subst this
    rw [ze_95_29, aF_z]
    simp (disch := omega) only [ze_95_0, ze_95_0_n, ze_95_1, ze_95_4, ze_95_5, ze_95_6, ze_95_7, ze_95_8, ze_95_11, ze_95_11_n, ze_95_12, ze_95_15, ze_95_16, ze_95_17, ze_95_18, ze_95_19, ze_95_20, ze_95_21, ze_95_24, ze_95_25, ze_95_26, ze_95_27, ze_95_31, ze_95_31_n, ze_95_32, ze_95_35, ze_95_38, ze_95_38_n, ze_95_39, ze_95_42, ze_95_43, ze_95_44, ze_95_46, ze_95_47, ze_95_48, ze_95_51, ze_95_52, ze_95_53, ze_95_56, ze_95_60, ze_95_62, ze_95_64, ze_95_64_n, ze_95_65, ze_95_68, ze_95_71, ze_95_71_n, ze_95_72, ze_95_75, ze_95_77, ze_95_78, ze_95_79, ze_95_80, ze_95_81, ze_95_84, ze_95_85, ze_95_86, ze_95_89, ze_95_92, ze_95_93, z_k_r, z_push_s, z_push_n, okS_0, okS_I, okS_R, okS_A, List.getElem?_cons_zero, List.getElem?_cons_succ, List.length_cons, List.length_nil, List.set_cons_zero, List.set_cons_succ, true_and, and_true, z_tI, z_tB, pk_mul, nI_add, cI_cl, cI_ix, nar_0, nar_1, nar_b, Nat.reduceAdd, Nat.reduceLT, Nat.reduceMul, ↓lG_R, ↓lG_C, ↓lG_N, ↓lG_G, ↓lG_n, ↓lG_4, ↓lG_5, ↓lG_6, lG_o, ↓lG_q1, lG_q1, ↓lG_q2, lG_q2, ↓lG_q3, lG_q3, ↓lG_q4, lG_q4, ↓lG_a1, lG_a1, ↓lG_a2, lG_a2, ↓lG_a4, lG_a4, lH_R, lH_C, lH_N, lH_G, lH_n, lH_4, lH_5, lH_6, lH_q1, lH_q2, lH_q3, lH_q4, lH_a1, lH_a2, lH_a4, cI_lt, cI_eq, ↓reduceIte, if_true, if_false, Nat.lt_irrefl, eq_self, Nat.reduceEqDiff, or_true, true_or, or_false, false_or, not_false_eq_true, not_true_eq_false, ce_5, zb_t, zb_f, Bool.false_eq_true]
  | k + 1, i, h => by
    have hi : i < S.C := by omega
    have e5 := ce_eqI (hc (r * 5 + i)) hs
    rw [ze_95_29, aF_s]
    simp (disch := omega) only [ze_95_0, ze_95_0_n, ze_95_1, ze_95_4, ze_95_5, ze_95_6, ze_95_7, ze_95_8, ze_95_11, ze_95_11_n, ze_95_12, ze_95_15, ze_95_16, ze_95_17, ze_95_18, ze_95_19, ze_95_20, ze_95_21, ze_95_24, ze_95_25, ze_95_26, ze_95_27, ze_95_31, ze_95_31_n, ze_95_32, ze_95_35, ze_95_38, ze_95_38_n, ze_95_39, ze_95_42, ze_95_43, ze_95_44, ze_95_46, ze_95_47, ze_95_48, ze_95_51, ze_95_52, ze_95_53, ze_95_56, ze_95_60, ze_95_62, ze_95_64, ze_95_64_n, ze_95_65, ze_95_68, ze_95_71, ze_95_71_n, ze_95_72, ze_95_75, ze_95_77, ze_95_78, ze_95_79, ze_95_80, ze_95_81, ze_95_84, ze_95_85, ze_95_86, ze_95_89, ze_95_92, ze_95_93, z_k_r, z_push_s, z_push_n, okS_0, okS_I, okS_R, okS_A, List.getElem?_cons_zero, List.getElem?_cons_succ, List.length_cons, List.length_nil, List.set_cons_zero, List.set_cons_succ, true_and, and_true, z_tI, z_tB, pk_mul, nI_add, cI_cl, cI_ix, nar_0, nar_1, nar_b, Nat.reduceAdd, Nat.reduceLT, Nat.reduceMul, ↓lG_R, ↓lG_C, ↓lG_N, ↓lG_G, ↓lG_n, ↓lG_4, ↓lG_5, ↓lG_6, lG_o, ↓lG_q1, lG_q1, ↓lG_q2, lG_q2, ↓lG_q3, lG_q3, ↓lG_q4, lG_q4, ↓lG_a1, lG_a1, ↓lG_a2, lG_a2, ↓lG_a4, lG_a4, lH_R, lH_C, lH_N, lH_G, lH_n, lH_4, lH_5, lH_6, lH_q1, lH_q2, lH_q3, lH_q4, lH_a1, lH_a2, lH_a4, cI_lt, cI_eq, ↓reduceIte, if_true, if_false, Nat.lt_irrefl, eq_self, Nat.reduceEqDiff, or_true, true_or, or_false, false_or, not_false_eq_true, not_true_eq_false, ce_5, zb_t, zb_f, hi, e5]
    by_cases e : S.c (r * 5 + i) = s
    · simp only [e, decide_true, Bool.true_or, if_true]
    · simp only [e, decide_false, Bool.false_or, if_false]
      exact l_can1 hR hC hc hr hs k (i + 1) (by omega)
theorem l_can2 (hR : S.R ≤ 5) (hC : S.C ≤ 5) (hc : ∀ k, S.c k ≤ 5) {r j s : Nat} (hj : j < S.C) (hs : s < 5) : ∀ (k i : Nat), i + k = S.R → z_T g d 95 62 [.ref Q, .int (nI r), .int (nI j), .int (nI s), .int (nI i)] [] (lgw f Q S X, q) P = P (.inr (some (.int (zb (!aF (fun x => decide (S.c (x * 5 + j) = s)) i k)))), (lgw f Q S X, q))
  | 0, i, h => by
    have : i = S.R := by omega
    subst this
    rw [ze_95_62, aF_z]
    simp (disch := omega) only [ze_95_0, ze_95_0_n, ze_95_1, ze_95_4, ze_95_5, ze_95_6, ze_95_7, ze_95_8, ze_95_11, ze_95_11_n, ze_95_12, ze_95_15, ze_95_16, ze_95_17, ze_95_18, ze_95_19, ze_95_20, ze_95_21, ze_95_24, ze_95_25, ze_95_26, ze_95_27, ze_95_29, ze_95_31, ze_95_31_n, ze_95_32, ze_95_35, ze_95_38, ze_95_38_n, ze_95_39, ze_95_42, ze_95_43, ze_95_44, ze_95_46, ze_95_47, ze_95_48, ze_95_51, ze_95_52, ze_95_53, ze_95_56, ze_95_59, ze_95_60, ze_95_64, ze_95_64_n, ze_95_65, ze_95_68, ze_95_71, ze_95_71_n, ze_95_72, ze_95_75, ze_95_77, ze_95_78, ze_95_79, ze_95_80, ze_95_81, ze_95_84, ze_95_85, ze_95_86, ze_95_89, ze_95_92, ze_95_93, z_k_r, z_push_s, z_push_n, okS_0, okS_I, okS_R, okS_A, List.getElem?_cons_zero, List.getElem?_cons_succ, List.length_cons, List.length_nil, List.set_cons_zero, List.set_cons_succ, true_and, and_true, z_tI, z_tB, pk_mul, nI_add, cI_cl, cI_ix, nar_0, nar_1, nar_b, Nat.reduceAdd, Nat.reduceLT, Nat.reduceMul, ↓lG_R, ↓lG_C, ↓lG_N, ↓lG_G, ↓lG_n, ↓lG_4, ↓lG_5, ↓lG_6, lG_o, ↓lG_q1, lG_q1, ↓lG_q2, lG_q2, ↓lG_q3, lG_q3, ↓lG_q4, lG_q4, ↓lG_a1, lG_a1, ↓lG_a2, lG_a2, ↓lG_a4, lG_a4, lH_R, lH_C, lH_N, lH_G, lH_n, lH_4, lH_5, lH_6, lH_q1, lH_q2, lH_q3, lH_q4, lH_a1, lH_a2, lH_a4, cI_lt, cI_eq, ↓reduceIte, if_true, if_false, Nat.lt_irrefl, eq_self, Nat.reduceEqDiff, or_true, true_or, or_false, false_or, not_false_eq_true, not_true_eq_false, ce_5, zb_t, zb_f, Bool.not_false]
  | k + 1, i, h => by
    have hi : i < S.R := by omega
    have e5 := ce_eqI (hc (i * 5 + j)) hs
    rw [ze_95_62, aF_s]
    simp (disch := omega) only [ze_95_0, ze_95_0_n, ze_95_1, ze_95_4, ze_95_5, ze_95_6, ze_95_7, ze_95_8, ze_95_11, ze_95_11_n, ze_95_12, ze_95_15, ze_95_16, ze_95_17, ze_95_18, ze_95_19, ze_95_20, ze_95_21, ze_95_24, ze_95_25, ze_95_26, ze_95_27, ze_95_29, ze_95_31, ze_95_31_n, ze_95_32, ze_95_35, ze_95_38, ze_95_38_n, ze_95_39, ze_95_42, ze_95_43, ze_95_44, ze_95_46, ze_95_47, ze_95_48, ze_95_51, ze_95_52, ze_95_53, ze_95_56, ze_95_59, ze_95_60, ze_95_64, ze_95_64_n, ze_95_65, ze_95_68, ze_95_71, ze_95_71_n, ze_95_72, ze_95_75, ze_95_77, ze_95_78, ze_95_79, ze_95_80, ze_95_81, ze_95_84, ze_95_85, ze_95_86, ze_95_89, ze_95_92, ze_95_93, z_k_r, z_push_s, z_push_n, okS_0, okS_I, okS_R, okS_A, List.getElem?_cons_zero, List.getElem?_cons_succ, List.length_cons, List.length_nil, List.set_cons_zero, List.set_cons_succ, true_and, and_true, z_tI, z_tB, pk_mul, nI_add, cI_cl, cI_ix, nar_0, nar_1, nar_b, Nat.reduceAdd, Nat.reduceLT, Nat.reduceMul, ↓lG_R, ↓lG_C, ↓lG_N, ↓lG_G, ↓lG_n, ↓lG_4, ↓lG_5, ↓lG_6, lG_o, ↓lG_q1, lG_q1, ↓lG_q2, lG_q2, ↓lG_q3, lG_q3, ↓lG_q4, lG_q4, ↓lG_a1, lG_a1, ↓lG_a2, lG_a2, ↓lG_a4, lG_a4, lH_R, lH_C, lH_N, lH_G, lH_n, lH_4, lH_5, lH_6, lH_q1, lH_q2, lH_q3, lH_q4, lH_a1, lH_a2, lH_a4, cI_lt, cI_eq, ↓reduceIte, if_true, if_false, Nat.lt_irrefl, eq_self, Nat.reduceEqDiff, or_true, true_or, or_false, false_or, not_false_eq_true, not_true_eq_false, ce_5, zb_t, zb_f, hi, e5]
    by_cases e : S.c (i * 5 + j) = s
    · simp only [e, decide_true, Bool.true_or, if_true, Bool.not_true]
      rfl
    · simp only [e, decide_false, Bool.false_or, if_false]
      exact l_can2 hR hC hc hj hs k (i + 1) (by omega)
theorem l_can (hg : GI S) {r j s : Nat} (hr : r < S.R) (hj : j < S.C) (hs : s < S.C) : z_Ca g d 95 [.ref Q, .int (nI r), .int (nI j), .int (nI s)] (lgw f Q S X, q) P = P (.inr (some (.int (zb (S.cd r j s)))), (lgw f Q S X, q)) := by
  have hC := hg.C5
  have hR := hg.RC
  have e5 := ce_neg (hg.c5 (r * 5 + j))
  have hw := l_can1 (g := g) (d := d) (f := f) (q := q) (P := P) (Q := Q) (X := X) (by omega) hC hg.c5 (j := j) hr (show s < 5 by omega) S.C 0 (Nat.zero_add _)
  have hw2 := l_can2 (g := g) (d := d) (f := f) (q := q) (P := P) (Q := Q) (X := X) (by omega) hC hg.c5 (r := r) hj (show s < 5 by omega) S.R 0 (Nat.zero_add _)
  rw [aF_any, rU_any hg (by omega) (by omega)] at hw
  rw [aF_any, cU_any hg (by omega) (by omega)] at hw2
  have cd : S.cd r j s = (decide (S.c (r * 5 + j) = 5) && !rU S.c r s && !cU S.c j s && !S.b (r * 5 + j) s) := by
    unfold GS.cd
    rw [decide_eq_true hs, Bool.true_and]
  rw [cd, zn_95]
  simp (disch := omega) only [ze_95_0, ze_95_0_n, ze_95_1, ze_95_4, ze_95_5, ze_95_6, ze_95_7, ze_95_8, ze_95_11, ze_95_11_n, ze_95_12, ze_95_15, ze_95_16, ze_95_17, ze_95_18, ze_95_19, ze_95_20, ze_95_21, ze_95_24, ze_95_25, ze_95_26, ze_95_27, ze_95_31, ze_95_31_n, ze_95_32, ze_95_35, ze_95_38, ze_95_38_n, ze_95_39, ze_95_42, ze_95_43, ze_95_44, ze_95_46, ze_95_47, ze_95_48, ze_95_51, ze_95_52, ze_95_53, ze_95_56, ze_95_59, ze_95_60, ze_95_64, ze_95_64_n, ze_95_65, ze_95_68, ze_95_71, ze_95_71_n, ze_95_72, ze_95_75, ze_95_77, ze_95_78, ze_95_79, ze_95_80, ze_95_81, ze_95_84, ze_95_85, ze_95_86, ze_95_89, ze_95_92, ze_95_93, z_k_r, z_push_s, z_push_n, okS_0, okS_I, okS_R, okS_A, List.getElem?_cons_zero, List.getElem?_cons_succ, List.length_cons, List.length_nil, List.set_cons_zero, List.set_cons_succ, true_and, and_true, z_tI, z_tB, pk_mul, nI_add, cI_cl, cI_ix, nar_0, nar_1, nar_b, Nat.reduceAdd, Nat.reduceLT, Nat.reduceMul, ↓lG_R, ↓lG_C, ↓lG_N, ↓lG_G, ↓lG_n, ↓lG_4, ↓lG_5, ↓lG_6, lG_o, ↓lG_q1, lG_q1, ↓lG_q2, lG_q2, ↓lG_q3, lG_q3, ↓lG_q4, lG_q4, ↓lG_a1, lG_a1, ↓lG_a2, lG_a2, ↓lG_a4, lG_a4, lH_R, lH_C, lH_N, lH_G, lH_n, lH_4, lH_5, lH_6, lH_q1, lH_q2, lH_q3, lH_q4, lH_a1, lH_a2, lH_a4, cI_lt, cI_eq, ↓reduceIte, if_true, if_false, Nat.lt_irrefl, eq_self, Nat.reduceEqDiff, or_true, true_or, or_false, false_or, not_false_eq_true, not_true_eq_false, ce_5, zb_t, zb_f, e5, zb_0, hw]
  by_cases e : S.c (r * 5 + j) = 5
  · simp only [e, decide_true, Bool.true_and, if_true]
    cases e2 : S.b (r * 5 + j) s
    · simp only [Bool.not_false, Bool.and_true, if_true]
      cases e3 : rU S.c r s
      · simp only [Bool.false_eq_true, if_false, Bool.not_false, Bool.true_and]
        exact hw2
      · simp only [if_true, Bool.not_true, Bool.false_and]
        rfl
    · simp only [Bool.not_true, Bool.and_false, Bool.true_eq_false, if_false]
      rfl
  · simp only [e, decide_false, Bool.false_and, if_false]
    rfl
theorem l_cands1 (hg : GI S) (hd : 0 < d) {r j : Nat} (hr : r < S.R) (hj : j < S.C) : ∀ (k i : Nat), i + k = S.C → z_T g d 96 5 [.ref Q, .int (nI r), .int (nI j), .int (sS fun t => decide (t < i) && S.cd r j t), .int (nI i)] [] (lgw f Q S X, q) P = P (.inr (some (.int (sS (S.cd r j)))), (lgw f Q S X, q))
  | 0, i, h => by
    have hC := hg.C5
    have : i = S.C := by omega
    subst this
    have e : (sS fun t => decide (t < S.C) && S.cd r j t) = sS (S.cd r j) := sS_congr fun t ht => by
      unfold GS.cd
      cases decide (t < S.C) <;> rfl
    rw [ze_96_5, e]
    simp (disch := omega) only [ze_96_0, ze_96_1, ze_96_2, ze_96_3, ze_96_7, ze_96_7_n, ze_96_8, ze_96_11, ze_96_14, ze_96_14_n, ze_96_15, ze_96_16, ze_96_17, ze_96_19, ze_96_22, ze_96_25, ze_96_26, ze_96_27, ze_96_29, ze_96_30, ze_96_31, ze_96_32, ze_96_35, ze_96_38, ze_96_39, z_k_r, z_push_s, z_push_n, okS_0, okS_I, okS_R, okS_A, List.getElem?_cons_zero, List.getElem?_cons_succ, List.length_cons, List.length_nil, List.set_cons_zero, List.set_cons_succ, true_and, and_true, z_tI, z_tB, pk_mul, nI_add, cI_cl, cI_ix, nar_0, nar_1, nar_b, Nat.reduceAdd, Nat.reduceLT, Nat.reduceMul, ↓lG_R, ↓lG_C, ↓lG_N, ↓lG_G, ↓lG_n, ↓lG_4, ↓lG_5, ↓lG_6, lG_o, ↓lG_q1, lG_q1, ↓lG_q2, lG_q2, ↓lG_q3, lG_q3, ↓lG_q4, lG_q4, ↓lG_a1, lG_a1, ↓lG_a2, lG_a2, ↓lG_a4, lG_a4, lH_R, lH_C, lH_N, lH_G, lH_n, lH_4, lH_5, lH_6, lH_q1, lH_q2, lH_q3, lH_q4, lH_a1, lH_a2, lH_a4, cI_lt, cI_eq, ↓reduceIte, if_true, if_false, Nat.lt_irrefl, eq_self, Nat.reduceEqDiff, or_true, true_or, or_false, false_or, not_false_eq_true, not_true_eq_false, ce_5, zb_t, zb_f]
  | k + 1, i, h => by
    have hC := hg.C5
    have hi : i < S.C := by omega
    have ih := l_cands1 hg hd hr hj k (i + 1) (by omega)
    have e : (sS fun t => decide (t < i + 1) && S.cd r j t) = sS fun t => (decide (t < i) && S.cd r j t) || (S.cd r j i && decide (t = i)) := sS_congr fun t ht => by
      by_cases z : t = i
      · subst z
        rw [decide_eq_true (by omega : t < t + 1), decide_eq_false (by omega : ¬ t < t), decide_eq_true rfl]
        cases S.cd r j t <;> rfl
      · by_cases z2 : t < i
        · rw [decide_eq_true (by omega : t < i + 1), decide_eq_true z2, decide_eq_false z]
          cases S.cd r j t <;> simp
        · rw [decide_eq_false (by omega : ¬ t < i + 1), decide_eq_false z2, decide_eq_false z]
          cases S.cd r j i <;> rfl
    rw [e] at ih
    have o := sS_one (s := i) (by omega)
    have cn := fun P => l_can (g := g) (d := d - 1) (f := f) (q := q) (P := P) (Q := Q) (X := X) hg hr hj hi
    rw [ze_96_5]
    simp (disch := omega) only [ze_96_0, ze_96_1, ze_96_2, ze_96_3, ze_96_7, ze_96_7_n, ze_96_8, ze_96_11, ze_96_14, ze_96_14_n, ze_96_15, ze_96_16, ze_96_17, ze_96_19, ze_96_22, ze_96_25, ze_96_26, ze_96_27, ze_96_29, ze_96_30, ze_96_31, ze_96_32, ze_96_35, ze_96_38, ze_96_39, z_k_r, z_push_s, z_push_n, okS_0, okS_I, okS_R, okS_A, List.getElem?_cons_zero, List.getElem?_cons_succ, List.length_cons, List.length_nil, List.set_cons_zero, List.set_cons_succ, true_and, and_true, z_tI, z_tB, pk_mul, nI_add, cI_cl, cI_ix, nar_0, nar_1, nar_b, Nat.reduceAdd, Nat.reduceLT, Nat.reduceMul, ↓lG_R, ↓lG_C, ↓lG_N, ↓lG_G, ↓lG_n, ↓lG_4, ↓lG_5, ↓lG_6, lG_o, ↓lG_q1, lG_q1, ↓lG_q2, lG_q2, ↓lG_q3, lG_q3, ↓lG_q4, lG_q4, ↓lG_a1, lG_a1, ↓lG_a2, lG_a2, ↓lG_a4, lG_a4, lH_R, lH_C, lH_N, lH_G, lH_n, lH_4, lH_5, lH_6, lH_q1, lH_q2, lH_q3, lH_q4, lH_a1, lH_a2, lH_a4, cI_lt, cI_eq, ↓reduceIte, if_true, if_false, Nat.lt_irrefl, eq_self, Nat.reduceEqDiff, or_true, true_or, or_false, false_or, not_false_eq_true, not_true_eq_false, ce_5, zb_t, zb_f, hi, hd, ↓cn, zb_0, o, sS_or]
    cases e2 : S.cd r j i
    · simp only [e2, Bool.false_and, Bool.or_false] at ih
      simp only [if_true]
      exact ih
    · simp only [e2, Bool.true_and] at ih
      simp only [Bool.true_eq_false, if_false]
      exact ih
theorem l_cands (hg : GI S) (hd : 0 < d) {r j : Nat} (hr : r < S.R) (hj : j < S.C) : z_Ca g d 96 [.ref Q, .int (nI r), .int (nI j)] (lgw f Q S X, q) P = P (.inr (some (.int (sS (S.cd r j)))), (lgw f Q S X, q)) := by
  have := l_cands1 (g := g) (f := f) (q := q) (P := P) (Q := Q) (X := X) hg hd hr hj S.C 0 (Nat.zero_add _)
  rw [← this, show (sS fun t => decide (t < 0) && S.cd r j t) = nI 0 from (sS_congr fun t _ => by rw [decide_eq_false (Nat.not_lt_zero t)]; rfl).trans sS_0.symm, zn_96]
  simp (disch := omega) only [ze_96_0, ze_96_1, ze_96_2, ze_96_3, ze_96_7, ze_96_7_n, ze_96_8, ze_96_11, ze_96_14, ze_96_14_n, ze_96_15, ze_96_16, ze_96_17, ze_96_19, ze_96_22, ze_96_25, ze_96_26, ze_96_27, ze_96_29, ze_96_30, ze_96_31, ze_96_32, ze_96_35, ze_96_38, ze_96_39, z_k_r, z_push_s, z_push_n, okS_0, okS_I, okS_R, okS_A, List.getElem?_cons_zero, List.getElem?_cons_succ, List.length_cons, List.length_nil, List.set_cons_zero, List.set_cons_succ, true_and, and_true, z_tI, z_tB, pk_mul, nI_add, cI_cl, cI_ix, nar_0, nar_1, nar_b, Nat.reduceAdd, Nat.reduceLT, Nat.reduceMul]
theorem l_full1 (hg : GI S) {r : Nat} (hr : r < S.R) : ∀ (k i : Nat), i + k = S.C → z_T g d 103 2 [.ref Q, .int (nI r), .int (nI i)] [] (lgw f Q S X, q) P = P (.inr (some (.int (zb (!aF (fun j => decide (S.c (r * 5 + j) = 5)) i k)))), (lgw f Q S X, q))
  | 0, i, h => by
    have hC := hg.C5
    have : i = S.C := by omega
    subst this
    rw [ze_103_2, aF_z]
    simp (disch := omega) only [ze_103_0, ze_103_1, ze_103_3, ze_103_3_n, ze_103_4, ze_103_7, ze_103_10, ze_103_10_n, ze_103_11, ze_103_14, ze_103_15, ze_103_16, ze_103_17, ze_103_18, ze_103_21, ze_103_22, ze_103_23, ze_103_26, ze_103_29, ze_103_30, z_k_r, z_push_s, z_push_n, okS_0, okS_I, okS_R, okS_A, List.getElem?_cons_zero, List.getElem?_cons_succ, List.length_cons, List.length_nil, List.set_cons_zero, List.set_cons_succ, true_and, and_true, z_tI, z_tB, pk_mul, nI_add, cI_cl, cI_ix, nar_0, nar_1, nar_b, Nat.reduceAdd, Nat.reduceLT, Nat.reduceMul, ↓lG_R, ↓lG_C, ↓lG_N, ↓lG_G, ↓lG_n, ↓lG_4, ↓lG_5, ↓lG_6, lG_o, ↓lG_q1, lG_q1, ↓lG_q2, lG_q2, ↓lG_q3, lG_q3, ↓lG_q4, lG_q4, ↓lG_a1, lG_a1, ↓lG_a2, lG_a2, ↓lG_a4, lG_a4, lH_R, lH_C, lH_N, lH_G, lH_n, lH_4, lH_5, lH_6, lH_q1, lH_q2, lH_q3, lH_q4, lH_a1, lH_a2, lH_a4, cI_lt, cI_eq, ↓reduceIte, if_true, if_false, Nat.lt_irrefl, eq_self, Nat.reduceEqDiff, or_true, true_or, or_false, false_or, not_false_eq_true, not_true_eq_false, ce_5, zb_t, zb_f, Bool.not_false]
  | k + 1, i, h => by
    have hC := hg.C5
    have hR := hg.RC
    have hi : i < S.C := by omega
    have e5 := ce_neg (hg.c5 (r * 5 + i))
    rw [ze_103_2, aF_s]
    simp (disch := omega) only [ze_103_0, ze_103_1, ze_103_3, ze_103_3_n, ze_103_4, ze_103_7, ze_103_10, ze_103_10_n, ze_103_11, ze_103_14, ze_103_15, ze_103_16, ze_103_17, ze_103_18, ze_103_21, ze_103_22, ze_103_23, ze_103_26, ze_103_29, ze_103_30, z_k_r, z_push_s, z_push_n, okS_0, okS_I, okS_R, okS_A, List.getElem?_cons_zero, List.getElem?_cons_succ, List.length_cons, List.length_nil, List.set_cons_zero, List.set_cons_succ, true_and, and_true, z_tI, z_tB, pk_mul, nI_add, cI_cl, cI_ix, nar_0, nar_1, nar_b, Nat.reduceAdd, Nat.reduceLT, Nat.reduceMul, ↓lG_R, ↓lG_C, ↓lG_N, ↓lG_G, ↓lG_n, ↓lG_4, ↓lG_5, ↓lG_6, lG_o, ↓lG_q1, lG_q1, ↓lG_q2, lG_q2, ↓lG_q3, lG_q3, ↓lG_q4, lG_q4, ↓lG_a1, lG_a1, ↓lG_a2, lG_a2, ↓lG_a4, lG_a4, lH_R, lH_C, lH_N, lH_G, lH_n, lH_4, lH_5, lH_6, lH_q1, lH_q2, lH_q3, lH_q4, lH_a1, lH_a2, lH_a4, cI_lt, cI_eq, ↓reduceIte, if_true, if_false, Nat.lt_irrefl, eq_self, Nat.reduceEqDiff, or_true, true_or, or_false, false_or, not_false_eq_true, not_true_eq_false, ce_5, zb_t, zb_f, hi, e5]
    by_cases e : S.c (r * 5 + i) = 5
    · simp only [e, decide_true, Bool.true_or, if_true, Bool.not_true]
      rfl
    · simp only [e, decide_false, Bool.false_or, if_false]
      exact l_full1 hg hr k (i + 1) (by omega)
theorem l_full (hg : GI S) {r : Nat} (hr : r < S.R) : z_Ca g d 103 [.ref Q, .int (nI r)] (lgw f Q S X, q) P = P (.inr (some (.int (zb (S.fl r)))), (lgw f Q S X, q)) := by
  have := l_full1 (g := g) (d := d) (f := f) (q := q) (P := P) (Q := Q) (X := X) hg hr S.C 0 (Nat.zero_add _)
  rw [aF_any] at this
  unfold GS.fl
  rw [← this, zn_103]
  simp (disch := omega) only [ze_103_0, ze_103_1, ze_103_3, ze_103_3_n, ze_103_4, ze_103_7, ze_103_10, ze_103_10_n, ze_103_11, ze_103_14, ze_103_15, ze_103_16, ze_103_17, ze_103_18, ze_103_21, ze_103_22, ze_103_23, ze_103_26, ze_103_29, ze_103_30, z_k_r, z_push_s, z_push_n, okS_0, okS_I, okS_R, okS_A, List.getElem?_cons_zero, List.getElem?_cons_succ, List.length_cons, List.length_nil, List.set_cons_zero, List.set_cons_succ, true_and, and_true, z_tI, z_tB, pk_mul, nI_add, cI_cl, cI_ix, nar_0, nar_1, nar_b, Nat.reduceAdd, Nat.reduceLT, Nat.reduceMul]
/-- what is filled, counted over the Grid's own cells -/
def GS.nf (S : GS) (r : Nat) : Nat := ct (fun j => !decide (S.c (r * 5 + j) = 5)) 0 S.C
def GS.nfN (S : GS) : Nat := sm S.nf 0 S.R
theorem l_fd1 (hg : GI S) {r : Nat} (hr : r < S.R) : ∀ (k j n : Nat), j + k = S.C → z_T g d 105 14 [.ref Q, .int (nI n), .int (nI r), .int (nI j)] [] (lgw f Q S X, q) P = z_T g d 105 42 [.ref Q, .int (nI (n + ct (fun j => !decide (S.c (r * 5 + j) = 5)) j k)), .int (nI r), .int (nI S.C)] [] (lgw f Q S X, q) P
  | 0, j, n, h => by
    have hC := hg.C5
    have : j = S.C := by omega
    subst this
    rw [ze_105_14]
    simp (disch := omega) only [ze_105_0, ze_105_1, ze_105_2, ze_105_3, ze_105_4, ze_105_5, ze_105_5_n, ze_105_6, ze_105_9, ze_105_12, ze_105_13, ze_105_15, ze_105_15_n, ze_105_16, ze_105_19, ze_105_22, ze_105_22_n, ze_105_23, ze_105_26, ze_105_27, ze_105_28, ze_105_29, ze_105_30, ze_105_33, ze_105_36, ze_105_39, ze_105_45, ze_105_48, ze_105_49, z_k_r, z_push_s, z_push_n, okS_0, okS_I, okS_R, okS_A, List.getElem?_cons_zero, List.getElem?_cons_succ, List.length_cons, List.length_nil, List.set_cons_zero, List.set_cons_succ, true_and, and_true, z_tI, z_tB, pk_mul, nI_add, cI_cl, cI_ix, nar_0, nar_1, nar_b, Nat.reduceAdd, Nat.reduceLT, Nat.reduceMul, ↓lG_R, ↓lG_C, ↓lG_N, ↓lG_G, ↓lG_n, ↓lG_4, ↓lG_5, ↓lG_6, lG_o, ↓lG_q1, lG_q1, ↓lG_q2, lG_q2, ↓lG_q3, lG_q3, ↓lG_q4, lG_q4, ↓lG_a1, lG_a1, ↓lG_a2, lG_a2, ↓lG_a4, lG_a4, lH_R, lH_C, lH_N, lH_G, lH_n, lH_4, lH_5, lH_6, lH_q1, lH_q2, lH_q3, lH_q4, lH_a1, lH_a2, lH_a4, cI_lt, cI_eq, ↓reduceIte, if_true, if_false, Nat.lt_irrefl, eq_self, Nat.reduceEqDiff, or_true, true_or, or_false, false_or, not_false_eq_true, not_true_eq_false, ce_5, zb_t, zb_f, ct_z, Nat.add_zero]
  | k + 1, j, n, h => by
    have hC := hg.C5
    have hR := hg.RC
    have hj : j < S.C := by omega
    have e5 := ce_neg (hg.c5 (r * 5 + j))
    rw [ze_105_14, ct_s]
    simp (disch := omega) only [ze_105_0, ze_105_1, ze_105_2, ze_105_3, ze_105_4, ze_105_5, ze_105_5_n, ze_105_6, ze_105_9, ze_105_12, ze_105_13, ze_105_15, ze_105_15_n, ze_105_16, ze_105_19, ze_105_22, ze_105_22_n, ze_105_23, ze_105_26, ze_105_27, ze_105_28, ze_105_29, ze_105_30, ze_105_33, ze_105_36, ze_105_39, ze_105_45, ze_105_48, ze_105_49, z_k_r, z_push_s, z_push_n, okS_0, okS_I, okS_R, okS_A, List.getElem?_cons_zero, List.getElem?_cons_succ, List.length_cons, List.length_nil, List.set_cons_zero, List.set_cons_succ, true_and, and_true, z_tI, z_tB, pk_mul, nI_add, cI_cl, cI_ix, nar_0, nar_1, nar_b, Nat.reduceAdd, Nat.reduceLT, Nat.reduceMul, ↓lG_R, ↓lG_C, ↓lG_N, ↓lG_G, ↓lG_n, ↓lG_4, ↓lG_5, ↓lG_6, lG_o, ↓lG_q1, lG_q1, ↓lG_q2, lG_q2, ↓lG_q3, lG_q3, ↓lG_q4, lG_q4, ↓lG_a1, lG_a1, ↓lG_a2, lG_a2, ↓lG_a4, lG_a4, lH_R, lH_C, lH_N, lH_G, lH_n, lH_4, lH_5, lH_6, lH_q1, lH_q2, lH_q3, lH_q4, lH_a1, lH_a2, lH_a4, cI_lt, cI_eq, ↓reduceIte, if_true, if_false, Nat.lt_irrefl, eq_self, Nat.reduceEqDiff, or_true, true_or, or_false, false_or, not_false_eq_true, not_true_eq_false, ce_5, zb_t, zb_f, hj, e5]
    by_cases e : S.c (r * 5 + j) = 5
    · simp only [e, if_true, decide_true, Bool.not_true, Bool.toNat_false, Nat.zero_add]
      exact l_fd1 hg hr k (j + 1) n (by omega)
    · simp only [e, if_false, decide_false, Bool.not_false, Bool.toNat_true, ← Nat.add_assoc]
      exact l_fd1 hg hr k (j + 1) (n + 1) (by omega)
theorem l_fd2 (hg : GI S) : ∀ (k r n : Nat) (v : Value), r + k = S.R → z_T g d 105 4 [.ref Q, .int (nI n), .int (nI r), v] [] (lgw f Q S X, q) P = P (.inr (some (.int (nI (n + sm S.nf r k)))), (lgw f Q S X, q))
  | 0, r, n, v, h => by
    have hC := hg.C5
    have hR := hg.RC
    have : r = S.R := by omega
    subst this
    rw [ze_105_4]
    simp (disch := omega) only [ze_105_0, ze_105_1, ze_105_2, ze_105_3, ze_105_5, ze_105_5_n, ze_105_6, ze_105_9, ze_105_12, ze_105_13, ze_105_15, ze_105_15_n, ze_105_16, ze_105_19, ze_105_22, ze_105_22_n, ze_105_23, ze_105_26, ze_105_27, ze_105_28, ze_105_29, ze_105_30, ze_105_33, ze_105_36, ze_105_39, ze_105_42, ze_105_45, ze_105_48, ze_105_49, z_k_r, z_push_s, z_push_n, okS_0, okS_I, okS_R, okS_A, List.getElem?_cons_zero, List.getElem?_cons_succ, List.length_cons, List.length_nil, List.set_cons_zero, List.set_cons_succ, true_and, and_true, z_tI, z_tB, pk_mul, nI_add, cI_cl, cI_ix, nar_0, nar_1, nar_b, Nat.reduceAdd, Nat.reduceLT, Nat.reduceMul, ↓lG_R, ↓lG_C, ↓lG_N, ↓lG_G, ↓lG_n, ↓lG_4, ↓lG_5, ↓lG_6, lG_o, ↓lG_q1, lG_q1, ↓lG_q2, lG_q2, ↓lG_q3, lG_q3, ↓lG_q4, lG_q4, ↓lG_a1, lG_a1, ↓lG_a2, lG_a2, ↓lG_a4, lG_a4, lH_R, lH_C, lH_N, lH_G, lH_n, lH_4, lH_5, lH_6, lH_q1, lH_q2, lH_q3, lH_q4, lH_a1, lH_a2, lH_a4, cI_lt, cI_eq, ↓reduceIte, if_true, if_false, Nat.lt_irrefl, eq_self, Nat.reduceEqDiff, or_true, true_or, or_false, false_or, not_false_eq_true, not_true_eq_false, ce_5, zb_t, zb_f, sm_z, Nat.add_zero]
  | k + 1, r, n, v, h => by
    have hC := hg.C5
    have hR := hg.RC
    have hr : r < S.R := by omega
    rw [ze_105_4, sm_s]
    simp (disch := omega) only [ze_105_0, ze_105_1, ze_105_2, ze_105_3, ze_105_5, ze_105_5_n, ze_105_6, ze_105_9, ze_105_12, ze_105_13, ze_105_15, ze_105_15_n, ze_105_16, ze_105_19, ze_105_22, ze_105_22_n, ze_105_23, ze_105_26, ze_105_27, ze_105_28, ze_105_29, ze_105_30, ze_105_33, ze_105_36, ze_105_39, ze_105_42, ze_105_45, ze_105_48, ze_105_49, z_k_r, z_push_s, z_push_n, okS_0, okS_I, okS_R, okS_A, List.getElem?_cons_zero, List.getElem?_cons_succ, List.length_cons, List.length_nil, List.set_cons_zero, List.set_cons_succ, true_and, and_true, z_tI, z_tB, pk_mul, nI_add, cI_cl, cI_ix, nar_0, nar_1, nar_b, Nat.reduceAdd, Nat.reduceLT, Nat.reduceMul, ↓lG_R, ↓lG_C, ↓lG_N, ↓lG_G, ↓lG_n, ↓lG_4, ↓lG_5, ↓lG_6, lG_o, ↓lG_q1, lG_q1, ↓lG_q2, lG_q2, ↓lG_q3, lG_q3, ↓lG_q4, lG_q4, ↓lG_a1, lG_a1, ↓lG_a2, lG_a2, ↓lG_a4, lG_a4, lH_R, lH_C, lH_N, lH_G, lH_n, lH_4, lH_5, lH_6, lH_q1, lH_q2, lH_q3, lH_q4, lH_a1, lH_a2, lH_a4, cI_lt, cI_eq, ↓reduceIte, if_true, if_false, Nat.lt_irrefl, eq_self, Nat.reduceEqDiff, or_true, true_or, or_false, false_or, not_false_eq_true, not_true_eq_false, ce_5, zb_t, zb_f, hr]
    rw [l_fd1 hg hr S.C 0 n (by omega)]
    simp (disch := omega) only [ze_105_0, ze_105_1, ze_105_2, ze_105_3, ze_105_5, ze_105_5_n, ze_105_6, ze_105_9, ze_105_12, ze_105_13, ze_105_15, ze_105_15_n, ze_105_16, ze_105_19, ze_105_22, ze_105_22_n, ze_105_23, ze_105_26, ze_105_27, ze_105_28, ze_105_29, ze_105_30, ze_105_33, ze_105_36, ze_105_39, ze_105_42, ze_105_45, ze_105_48, ze_105_49, z_k_r, z_push_s, z_push_n, okS_0, okS_I, okS_R, okS_A, List.getElem?_cons_zero, List.getElem?_cons_succ, List.length_cons, List.length_nil, List.set_cons_zero, List.set_cons_succ, true_and, and_true, z_tI, z_tB, pk_mul, nI_add, cI_cl, cI_ix, nar_0, nar_1, nar_b, Nat.reduceAdd, Nat.reduceLT, Nat.reduceMul]
    rw [l_fd2 hg k (r + 1) _ _ (by omega), Nat.add_assoc]
    rfl
theorem nf_25 (hg : GI S) : S.nfN = nF S.c 25 := by
  have hC := hg.C5
  have hR := hg.RC
  have e1 : ∀ n, nF S.c n = ct (fun k => !decide (S.c k = 5)) 0 n := by
    intro n
    induction n with
    | zero => rfl
    | succ n ih =>
      rw [ct_split _ n 1 0, ← ih, ct_s, ct_z, Nat.zero_add, Nat.add_zero]
      show nF S.c n + (if S.c n = 5 then 0 else 1) = _
      by_cases e : S.c n = 5
      · simp [e]
      · simp [e]
  have row : ∀ r, r < S.R → ct (fun k => !decide (S.c k = 5)) (r * 5) 5 = S.nf r := by
    intro r hr
    have := ct_sh (fun k => !decide (S.c k = 5)) (r * 5) 5 0
    rw [Nat.add_zero] at this
    rw [this]
    have z : ∀ p : Nat → Bool, (∀ j, S.C ≤ j → j < 5 → p j = false) → ct p 0 5 = ct p 0 S.C := by
      intro p hp
      have : ct p 0 5 = ct p 0 (S.C + (5 - S.C)) := by rw [show S.C + (5 - S.C) = 5 by omega]
      rw [this, ct_split, ct_zero (5 - S.C) (0 + S.C) (fun j h1 h2 => hp j (by omega) (by omega)), Nat.add_zero]
    refine z _ (fun j h1 h2 => ?_)
    show (!decide (S.c (r * 5 + j) = 5)) = false
    rw [hg.out r j (by omega) (by omega) (.inr (by omega))]
    rfl
  have rows : ∀ k r, r + k = S.R → ct (fun k => !decide (S.c k = 5)) (r * 5) (5 * k) = sm S.nf r k := by
    intro k
    induction k with
    | zero => intro r _; rfl
    | succ k ih =>
      intro r h
      rw [show 5 * (k + 1) = 5 + 5 * k by omega, ct_split, row r (by omega), sm_s, show r * 5 + 5 = (r + 1) * 5 by omega, ih (r + 1) (by omega)]
  have := rows S.R 0 (Nat.zero_add _)
  unfold GS.nfN
  rw [← this, e1, show 0 * 5 = 0 from rfl]
  have e25 : ct (fun k => !decide (S.c k = 5)) 0 25 = ct (fun k => !decide (S.c k = 5)) 0 (5 * S.R + (25 - 5 * S.R)) := by rw [show 5 * S.R + (25 - 5 * S.R) = 25 by omega]
  rw [e25, ct_split, ct_zero (25 - 5 * S.R) _ (fun j h1 h2 => ?_)]
  · exact (Nat.add_zero _).symm
  · have := hg.out (j / 5) (j % 5) (by omega) (by omega) (.inl (by omega))
    rw [show j / 5 * 5 + j % 5 = j by omega] at this
    show (!decide (S.c j = 5)) = false
    rw [this]
    rfl
theorem l_filled (hg : GI S) : z_Ca g d 105 [.ref Q] (lgw f Q S X, q) P = P (.inr (some (.int (nI (nF S.c 25)))), (lgw f Q S X, q)) := by
  have := l_fd2 (g := g) (d := d) (f := f) (q := q) (P := P) (Q := Q) (X := X) hg S.R 0 0 z_un (Nat.zero_add _)
  rw [Nat.zero_add, show sm S.nf 0 S.R = nF S.c 25 from nf_25 hg] at this
  rw [← this, zn_105]
  simp (disch := omega) only [ze_105_0, ze_105_1, ze_105_2, ze_105_3, ze_105_5, ze_105_5_n, ze_105_6, ze_105_9, ze_105_12, ze_105_13, ze_105_14, ze_105_15, ze_105_15_n, ze_105_16, ze_105_19, ze_105_22, ze_105_22_n, ze_105_23, ze_105_26, ze_105_27, ze_105_28, ze_105_29, ze_105_30, ze_105_33, ze_105_36, ze_105_39, ze_105_42, ze_105_45, ze_105_48, ze_105_49, z_k_r, z_push_s, z_push_n, okS_0, okS_I, okS_R, okS_A, List.getElem?_cons_zero, List.getElem?_cons_succ, List.length_cons, List.length_nil, List.set_cons_zero, List.set_cons_succ, true_and, and_true, z_tI, z_tB, pk_mul, nI_add, cI_cl, cI_ix, nar_0, nar_1, nar_b, Nat.reduceAdd, Nat.reduceLT, Nat.reduceMul]
end
