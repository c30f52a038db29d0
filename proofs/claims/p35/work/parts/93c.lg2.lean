/-! the law's Grid: a row filled -/
def oK (o : Option GS) (S : GS) (K : Int32 → GS → Prop) : Prop := match o with
  | some T => K (nI 1) T
  | none => K (nI 0) S
theorem oK_s (T S : GS) (K : Int32 → GS → Prop) : oK (some T) S K = K (nI 1) T := rfl
theorem oK_n (S : GS) (K : Int32 → GS → Prop) : oK none S K = K (nI 0) S := rfl
section
variable {g : z_G} {f : Nat → Option z_C} {q : Option Nat × Nat × Nat} {P : z_Res → Prop} {Q : Nat} {X : LX}
theorem l_fr1 {S : GS} (hg : GI S) {d r j k : Nat} (hd : 0 < d) (hr : r < S.R) (hj : j < S.C) (he : S.c (r * 5 + j) = 5)
    (ih : ∀ (s : Nat) (P : z_Res → Prop), S.cd r j s = true → z_Ca g (d - 1) 106 [.ref Q, .int (nI r), .int (nI (j + 1))] (lgw f Q (S.put r j s) X, q) P = oK ((S.put r j s).fR r k (j + 1)) (S.put r j s) (fun v T => P (.inr (some (.int v)), (lgw f Q T X, q)))) :
    ∀ (m s : Nat), s + m = S.C → z_T g d 106 32 [.ref Q, .int (nI r), .int (nI j), .int (nI s)] [] (lgw f Q S X, q) P = oK (fsO (fun s => if S.cd r j s = true then (S.put r j s).fR r k (j + 1) else none) s m) S (fun v T => P (.inr (some (.int v)), (lgw f Q T X, q)))
  | 0, s, h => by
    have hC := hg.C5
    have : s = S.C := by omega
    subst this
    rw [ze_106_32]
    simp (disch := omega) only [ze_106_0, ze_106_1, ze_106_1_n, ze_106_2, ze_106_5, ze_106_8, ze_106_9, ze_106_10, ze_106_10_n, ze_106_11, ze_106_14, ze_106_15, ze_106_16, ze_106_17, ze_106_18, ze_106_21, ze_106_21_n, ze_106_22, ze_106_23, ze_106_24, ze_106_25, ze_106_26, ze_106_29, ze_106_30, ze_106_31, ze_106_33, ze_106_33_n, ze_106_34, ze_106_37, ze_106_40, ze_106_40_n, ze_106_41, ze_106_42, ze_106_43, ze_106_44, ze_106_47, ze_106_50, ze_106_53, ze_106_53_n, ze_106_54, ze_106_57, ze_106_58, ze_106_59, ze_106_60, ze_106_61, ze_106_62, ze_106_62_n, ze_106_63, ze_106_64, ze_106_65, ze_106_66, ze_106_67, ze_106_70, ze_106_73, ze_106_74, ze_106_75, ze_106_75_n, ze_106_76, ze_106_79, ze_106_80, ze_106_81, ze_106_82, ze_106_83, ze_106_84, ze_106_87, ze_106_90, ze_106_91, z_k_r, z_push_s, z_push_n, okS_0, okS_I, okS_R, okS_A, List.getElem?_cons_zero, List.getElem?_cons_succ, List.length_cons, List.length_nil, List.set_cons_zero, List.set_cons_succ, true_and, and_true, z_tI, z_tB, pk_mul, nI_add, cI_cl, cI_ix, nar_0, nar_1, nar_b, Nat.reduceAdd, Nat.reduceLT, Nat.reduceMul, ↓lG_R, ↓lG_C, ↓lG_N, ↓lG_G, ↓lG_n, ↓lG_4, ↓lG_5, ↓lG_6, lG_o, ↓lG_q1, lG_q1, ↓lG_q2, lG_q2, ↓lG_q3, lG_q3, ↓lG_q4, lG_q4, ↓lG_a1, lG_a1, ↓lG_a2, lG_a2, ↓lG_a4, lG_a4, cI_lt, cI_eq, ↓reduceIte, if_true, if_false, Nat.lt_irrefl, eq_self, Nat.reduceEqDiff, or_true, true_or, or_false, false_or, not_false_eq_true, not_true_eq_false, ce_5, zb_t, zb_f]
    rfl
  | m + 1, s, h => by
    have hC := hg.C5
    have hR := hg.RC
    have hs : s < S.C := by omega
    have go := l_fr1 hg hd hr hj he ih m (s + 1) (by omega)
    have cn := fun P => l_can (g := g) (d := d - 1) (f := f) (q := q) (P := P) (Q := Q) (X := X) hg hr hj hs
    have pt := put_take (s := s) he
    have t1 := fun K => lG_take f Q (S.put r j s) X q (r := r) (j := j) hr hj hC K
    have t0 := fun K => lG_put f Q S X q (r := r) (j := j) (s := s) hr hj hC (by omega) K
    have t4 := fun K => lG_4 f Q (S.put r j s) X q K
    have t5 := fun K => lG_q1 f Q (S.put r j s) X q (r := r) hr (show S.R ≤ 5 by omega) K
    rw [pt] at t1
    rw [ze_106_32]
    cases e : S.cd r j s
    · rw [e] at cn
      rw [fsO_n (by rw [e]; rfl), ← go]
      simp (disch := omega) only [ze_106_0, ze_106_1, ze_106_1_n, ze_106_2, ze_106_5, ze_106_8, ze_106_9, ze_106_10, ze_106_10_n, ze_106_11, ze_106_14, ze_106_15, ze_106_16, ze_106_17, ze_106_18, ze_106_21, ze_106_21_n, ze_106_22, ze_106_23, ze_106_24, ze_106_25, ze_106_26, ze_106_29, ze_106_30, ze_106_31, ze_106_33, ze_106_33_n, ze_106_34, ze_106_37, ze_106_40, ze_106_40_n, ze_106_41, ze_106_42, ze_106_43, ze_106_44, ze_106_47, ze_106_50, ze_106_53, ze_106_53_n, ze_106_54, ze_106_57, ze_106_58, ze_106_59, ze_106_60, ze_106_61, ze_106_62, ze_106_62_n, ze_106_63, ze_106_64, ze_106_65, ze_106_66, ze_106_67, ze_106_70, ze_106_73, ze_106_74, ze_106_75, ze_106_75_n, ze_106_76, ze_106_79, ze_106_80, ze_106_81, ze_106_82, ze_106_83, ze_106_84, ze_106_87, ze_106_90, ze_106_91, z_k_r, z_push_s, z_push_n, okS_0, okS_I, okS_R, okS_A, List.getElem?_cons_zero, List.getElem?_cons_succ, List.length_cons, List.length_nil, List.set_cons_zero, List.set_cons_succ, true_and, and_true, z_tI, z_tB, pk_mul, nI_add, cI_cl, cI_ix, nar_0, nar_1, nar_b, Nat.reduceAdd, Nat.reduceLT, Nat.reduceMul, ↓lG_R, ↓lG_C, ↓lG_N, ↓lG_G, ↓lG_n, ↓lG_4, ↓lG_5, ↓lG_6, lG_o, ↓lG_q1, lG_q1, ↓lG_q2, lG_q2, ↓lG_q3, lG_q3, ↓lG_q4, lG_q4, ↓lG_a1, lG_a1, ↓lG_a2, lG_a2, ↓lG_a4, lG_a4, cI_lt, cI_eq, ↓reduceIte, if_true, if_false, Nat.lt_irrefl, eq_self, Nat.reduceEqDiff, or_true, true_or, or_false, false_or, not_false_eq_true, not_true_eq_false, ce_5, zb_t, zb_f, hs, hd, ↓cn]
    · rw [e] at cn
      have ih2 := fun P => ih s P e
      cases e2 : (S.put r j s).fR r k (j + 1) with
      | none =>
        rw [e2] at ih2
        simp only [oK_n] at ih2
        rw [fsO_n (by rw [e, e2]; rfl), ← go]
        simp (disch := omega) only [ze_106_0, ze_106_1, ze_106_1_n, ze_106_2, ze_106_5, ze_106_8, ze_106_9, ze_106_10, ze_106_10_n, ze_106_11, ze_106_14, ze_106_15, ze_106_16, ze_106_17, ze_106_18, ze_106_21, ze_106_21_n, ze_106_22, ze_106_23, ze_106_24, ze_106_25, ze_106_26, ze_106_29, ze_106_30, ze_106_31, ze_106_33, ze_106_33_n, ze_106_34, ze_106_37, ze_106_40, ze_106_40_n, ze_106_41, ze_106_42, ze_106_43, ze_106_44, ze_106_47, ze_106_50, ze_106_53, ze_106_53_n, ze_106_54, ze_106_57, ze_106_58, ze_106_59, ze_106_60, ze_106_61, ze_106_62, ze_106_62_n, ze_106_63, ze_106_64, ze_106_65, ze_106_66, ze_106_67, ze_106_70, ze_106_73, ze_106_74, ze_106_75, ze_106_75_n, ze_106_76, ze_106_79, ze_106_80, ze_106_81, ze_106_82, ze_106_83, ze_106_84, ze_106_87, ze_106_90, ze_106_91, z_k_r, z_push_s, z_push_n, okS_0, okS_I, okS_R, okS_A, List.getElem?_cons_zero, List.getElem?_cons_succ, List.length_cons, List.length_nil, List.set_cons_zero, List.set_cons_succ, true_and, and_true, z_tI, z_tB, pk_mul, nI_add, cI_cl, cI_ix, nar_0, nar_1, nar_b, Nat.reduceAdd, Nat.reduceLT, Nat.reduceMul, ↓lG_R, ↓lG_C, ↓lG_N, ↓lG_G, ↓lG_n, ↓lG_4, ↓lG_5, ↓lG_6, lG_o, ↓lG_q1, lG_q1, ↓lG_q2, lG_q2, ↓lG_q3, lG_q3, ↓lG_q4, lG_q4, ↓lG_a1, lG_a1, ↓lG_a2, lG_a2, ↓lG_a4, lG_a4, cI_lt, cI_eq, ↓reduceIte, if_true, if_false, Nat.lt_irrefl, eq_self, Nat.reduceEqDiff, or_true, true_or, or_false, false_or, not_false_eq_true, not_true_eq_false, ce_5, zb_t, zb_f, hs, hd, ↓cn, ↓t0, ↓ih2, ↓t4, ↓t5, ↓t1]
      | some T =>
        rw [e2] at ih2
        simp only [oK_s] at ih2
        rw [fsO_s (x := T) (by rw [e, e2]; rfl)]
        simp (disch := omega) only [ze_106_0, ze_106_1, ze_106_1_n, ze_106_2, ze_106_5, ze_106_8, ze_106_9, ze_106_10, ze_106_10_n, ze_106_11, ze_106_14, ze_106_15, ze_106_16, ze_106_17, ze_106_18, ze_106_21, ze_106_21_n, ze_106_22, ze_106_23, ze_106_24, ze_106_25, ze_106_26, ze_106_29, ze_106_30, ze_106_31, ze_106_33, ze_106_33_n, ze_106_34, ze_106_37, ze_106_40, ze_106_40_n, ze_106_41, ze_106_42, ze_106_43, ze_106_44, ze_106_47, ze_106_50, ze_106_53, ze_106_53_n, ze_106_54, ze_106_57, ze_106_58, ze_106_59, ze_106_60, ze_106_61, ze_106_62, ze_106_62_n, ze_106_63, ze_106_64, ze_106_65, ze_106_66, ze_106_67, ze_106_70, ze_106_73, ze_106_74, ze_106_75, ze_106_75_n, ze_106_76, ze_106_79, ze_106_80, ze_106_81, ze_106_82, ze_106_83, ze_106_84, ze_106_87, ze_106_90, ze_106_91, z_k_r, z_push_s, z_push_n, okS_0, okS_I, okS_R, okS_A, List.getElem?_cons_zero, List.getElem?_cons_succ, List.length_cons, List.length_nil, List.set_cons_zero, List.set_cons_succ, true_and, and_true, z_tI, z_tB, pk_mul, nI_add, cI_cl, cI_ix, nar_0, nar_1, nar_b, Nat.reduceAdd, Nat.reduceLT, Nat.reduceMul, ↓lG_R, ↓lG_C, ↓lG_N, ↓lG_G, ↓lG_n, ↓lG_4, ↓lG_5, ↓lG_6, lG_o, ↓lG_q1, lG_q1, ↓lG_q2, lG_q2, ↓lG_q3, lG_q3, ↓lG_q4, lG_q4, ↓lG_a1, lG_a1, ↓lG_a2, lG_a2, ↓lG_a4, lG_a4, cI_lt, cI_eq, ↓reduceIte, if_true, if_false, Nat.lt_irrefl, eq_self, Nat.reduceEqDiff, or_true, true_or, or_false, false_or, not_false_eq_true, not_true_eq_false, ce_5, zb_t, zb_f, hs, hd, ↓cn, ↓t0, ↓ih2]
        rfl
theorem l_fr {r : Nat} : ∀ (k d j : Nat) (S : GS) (P : z_Res → Prop), GI S → r < S.R → j + k = S.C → k + 1 < d → z_Ca g d 106 [.ref Q, .int (nI r), .int (nI j)] (lgw f Q S X, q) P = oK (S.fR r k j) S (fun v T => P (.inr (some (.int v)), (lgw f Q T X, q)))
  | 0, d, j, S, P, hg, hr, h, hd => by
    have hC := hg.C5
    have : j = S.C := by omega
    subst this
    rw [zn_106]
    simp (disch := omega) only [ze_106_0, ze_106_1, ze_106_1_n, ze_106_2, ze_106_5, ze_106_8, ze_106_9, ze_106_10, ze_106_10_n, ze_106_11, ze_106_14, ze_106_15, ze_106_16, ze_106_17, ze_106_18, ze_106_21, ze_106_21_n, ze_106_22, ze_106_23, ze_106_24, ze_106_25, ze_106_26, ze_106_29, ze_106_30, ze_106_31, ze_106_33, ze_106_33_n, ze_106_34, ze_106_37, ze_106_40, ze_106_40_n, ze_106_41, ze_106_42, ze_106_43, ze_106_44, ze_106_47, ze_106_50, ze_106_53, ze_106_53_n, ze_106_54, ze_106_57, ze_106_58, ze_106_59, ze_106_60, ze_106_61, ze_106_62, ze_106_62_n, ze_106_63, ze_106_64, ze_106_65, ze_106_66, ze_106_67, ze_106_70, ze_106_73, ze_106_74, ze_106_75, ze_106_75_n, ze_106_76, ze_106_79, ze_106_80, ze_106_81, ze_106_82, ze_106_83, ze_106_84, ze_106_87, ze_106_90, ze_106_91, z_k_r, z_push_s, z_push_n, okS_0, okS_I, okS_R, okS_A, List.getElem?_cons_zero, List.getElem?_cons_succ, List.length_cons, List.length_nil, List.set_cons_zero, List.set_cons_succ, true_and, and_true, z_tI, z_tB, pk_mul, nI_add, cI_cl, cI_ix, nar_0, nar_1, nar_b, Nat.reduceAdd, Nat.reduceLT, Nat.reduceMul, ↓lG_R, ↓lG_C, ↓lG_N, ↓lG_G, ↓lG_n, ↓lG_4, ↓lG_5, ↓lG_6, lG_o, ↓lG_q1, lG_q1, ↓lG_q2, lG_q2, ↓lG_q3, lG_q3, ↓lG_q4, lG_q4, ↓lG_a1, lG_a1, ↓lG_a2, lG_a2, ↓lG_a4, lG_a4, cI_lt, cI_eq, ↓reduceIte, if_true, if_false, Nat.lt_irrefl, eq_self, Nat.reduceEqDiff, or_true, true_or, or_false, false_or, not_false_eq_true, not_true_eq_false, ce_5, zb_t, zb_f]
    rfl
  | k + 1, d, j, S, P, hg, hr, h, hd => by
    have hC := hg.C5
    have hR := hg.RC
    have hj : j < S.C := by omega
    have hjn : ¬ j = S.C := by omega
    have hd0 : 0 < d := by omega
    have e5 := ce_neg (hg.c5 (r * 5 + j))
    rw [zn_106]
    by_cases e : S.c (r * 5 + j) = 5
    · have w := l_fr1 (g := g) (f := f) (q := q) (P := P) (Q := Q) (X := X) hg (d := d) (k := k) hd0 hr hj e (fun s P hs => l_fr k (d - 1) (j + 1) (S.put r j s) P (GI_put hg hr hj hs) hr (show j + 1 + k = S.C by omega) (by omega)) S.C 0 (Nat.zero_add _)
      have eq : S.fR r (k + 1) j = fsO (fun s => if S.cd r j s = true then (S.put r j s).fR r k (j + 1) else none) 0 S.C := by
        conv => lhs; unfold GS.fR
        rw [if_pos e]
      rw [eq, ← w]
      simp (disch := omega) only [ze_106_0, ze_106_1, ze_106_1_n, ze_106_2, ze_106_5, ze_106_8, ze_106_9, ze_106_10, ze_106_10_n, ze_106_11, ze_106_14, ze_106_15, ze_106_16, ze_106_17, ze_106_18, ze_106_21, ze_106_21_n, ze_106_22, ze_106_23, ze_106_24, ze_106_25, ze_106_26, ze_106_29, ze_106_30, ze_106_31, ze_106_33, ze_106_33_n, ze_106_34, ze_106_37, ze_106_40, ze_106_40_n, ze_106_41, ze_106_42, ze_106_43, ze_106_44, ze_106_47, ze_106_50, ze_106_53, ze_106_53_n, ze_106_54, ze_106_57, ze_106_58, ze_106_59, ze_106_60, ze_106_61, ze_106_62, ze_106_62_n, ze_106_63, ze_106_64, ze_106_65, ze_106_66, ze_106_67, ze_106_70, ze_106_73, ze_106_74, ze_106_75, ze_106_75_n, ze_106_76, ze_106_79, ze_106_80, ze_106_81, ze_106_82, ze_106_83, ze_106_84, ze_106_87, ze_106_90, ze_106_91, z_k_r, z_push_s, z_push_n, okS_0, okS_I, okS_R, okS_A, List.getElem?_cons_zero, List.getElem?_cons_succ, List.length_cons, List.length_nil, List.set_cons_zero, List.set_cons_succ, true_and, and_true, z_tI, z_tB, pk_mul, nI_add, cI_cl, cI_ix, nar_0, nar_1, nar_b, Nat.reduceAdd, Nat.reduceLT, Nat.reduceMul, ↓lG_R, ↓lG_C, ↓lG_N, ↓lG_G, ↓lG_n, ↓lG_4, ↓lG_5, ↓lG_6, lG_o, ↓lG_q1, lG_q1, ↓lG_q2, lG_q2, ↓lG_q3, lG_q3, ↓lG_q4, lG_q4, ↓lG_a1, lG_a1, ↓lG_a2, lG_a2, ↓lG_a4, lG_a4, cI_lt, cI_eq, ↓reduceIte, if_true, if_false, Nat.lt_irrefl, eq_self, Nat.reduceEqDiff, or_true, true_or, or_false, false_or, not_false_eq_true, not_true_eq_false, ce_5, zb_t, zb_f, hjn, e5]
      rw [if_pos e]
    · have ih := fun P => l_fr k (d - 1) (j + 1) S P hg hr (by omega) (by omega)
      simp (disch := omega) only [ze_106_0, ze_106_1, ze_106_1_n, ze_106_2, ze_106_5, ze_106_8, ze_106_9, ze_106_10, ze_106_10_n, ze_106_11, ze_106_14, ze_106_15, ze_106_16, ze_106_17, ze_106_18, ze_106_21, ze_106_21_n, ze_106_22, ze_106_23, ze_106_24, ze_106_25, ze_106_26, ze_106_29, ze_106_30, ze_106_31, ze_106_33, ze_106_33_n, ze_106_34, ze_106_37, ze_106_40, ze_106_40_n, ze_106_41, ze_106_42, ze_106_43, ze_106_44, ze_106_47, ze_106_50, ze_106_53, ze_106_53_n, ze_106_54, ze_106_57, ze_106_58, ze_106_59, ze_106_60, ze_106_61, ze_106_62, ze_106_62_n, ze_106_63, ze_106_64, ze_106_65, ze_106_66, ze_106_67, ze_106_70, ze_106_73, ze_106_74, ze_106_75, ze_106_75_n, ze_106_76, ze_106_79, ze_106_80, ze_106_81, ze_106_82, ze_106_83, ze_106_84, ze_106_87, ze_106_90, ze_106_91, z_k_r, z_push_s, z_push_n, okS_0, okS_I, okS_R, okS_A, List.getElem?_cons_zero, List.getElem?_cons_succ, List.length_cons, List.length_nil, List.set_cons_zero, List.set_cons_succ, true_and, and_true, z_tI, z_tB, pk_mul, nI_add, cI_cl, cI_ix, nar_0, nar_1, nar_b, Nat.reduceAdd, Nat.reduceLT, Nat.reduceMul, ↓lG_R, ↓lG_C, ↓lG_N, ↓lG_G, ↓lG_n, ↓lG_4, ↓lG_5, ↓lG_6, lG_o, ↓lG_q1, lG_q1, ↓lG_q2, lG_q2, ↓lG_q3, lG_q3, ↓lG_q4, lG_q4, ↓lG_a1, lG_a1, ↓lG_a2, lG_a2, ↓lG_a4, lG_a4, cI_lt, cI_eq, ↓reduceIte, if_true, if_false, Nat.lt_irrefl, eq_self, Nat.reduceEqDiff, or_true, true_or, or_false, false_or, not_false_eq_true, not_true_eq_false, ce_5, zb_t, zb_f, hjn, e5, e, hd0, ↓ih]
      have eq : S.fR r (k + 1) j = S.fR r k (j + 1) := by
        conv => lhs; unfold GS.fR
        rw [if_neg e]
      rw [eq]
      cases S.fR r k (j + 1)
      · simp only [oK_n, z_k_r, z_push_s, z_push_n, okS_0, okS_I, okS_R, okS_A, List.getElem?_cons_zero, List.getElem?_cons_succ, List.length_cons, List.length_nil, List.set_cons_zero, List.set_cons_succ, true_and, and_true, z_tI, z_tB, pk_mul, nI_add, cI_cl, cI_ix, nar_0, nar_1, nar_b, Nat.reduceAdd, Nat.reduceLT, Nat.reduceMul, cI_lt, cI_eq, ↓reduceIte, if_true, if_false, Nat.lt_irrefl, eq_self, Nat.reduceEqDiff, or_true, true_or, or_false, false_or, not_false_eq_true, not_true_eq_false, ce_5, zb_t, zb_f, ze_106_0, ze_106_1, ze_106_1_n, ze_106_2, ze_106_5, ze_106_8, ze_106_9, ze_106_10, ze_106_10_n, ze_106_11, ze_106_14, ze_106_15, ze_106_16, ze_106_17, ze_106_18, ze_106_21, ze_106_21_n, ze_106_22, ze_106_23, ze_106_24, ze_106_25, ze_106_26, ze_106_29, ze_106_30, ze_106_31, ze_106_33, ze_106_33_n, ze_106_34, ze_106_37, ze_106_40, ze_106_40_n, ze_106_41, ze_106_42, ze_106_43, ze_106_44, ze_106_47, ze_106_50, ze_106_53, ze_106_53_n, ze_106_54, ze_106_57, ze_106_58, ze_106_59, ze_106_60, ze_106_61, ze_106_62, ze_106_62_n, ze_106_63, ze_106_64, ze_106_65, ze_106_66, ze_106_67, ze_106_70, ze_106_73, ze_106_74, ze_106_75, ze_106_75_n, ze_106_76, ze_106_79, ze_106_80, ze_106_81, ze_106_82, ze_106_83, ze_106_84, ze_106_87, ze_106_90, ze_106_91]
      · simp only [oK_s, z_k_r, z_push_s, z_push_n, okS_0, okS_I, okS_R, okS_A, List.getElem?_cons_zero, List.getElem?_cons_succ, List.length_cons, List.length_nil, List.set_cons_zero, List.set_cons_succ, true_and, and_true, z_tI, z_tB, pk_mul, nI_add, cI_cl, cI_ix, nar_0, nar_1, nar_b, Nat.reduceAdd, Nat.reduceLT, Nat.reduceMul, cI_lt, cI_eq, ↓reduceIte, if_true, if_false, Nat.lt_irrefl, eq_self, Nat.reduceEqDiff, or_true, true_or, or_false, false_or, not_false_eq_true, not_true_eq_false, ce_5, zb_t, zb_f, ze_106_0, ze_106_1, ze_106_1_n, ze_106_2, ze_106_5, ze_106_8, ze_106_9, ze_106_10, ze_106_10_n, ze_106_11, ze_106_14, ze_106_15, ze_106_16, ze_106_17, ze_106_18, ze_106_21, ze_106_21_n, ze_106_22, ze_106_23, ze_106_24, ze_106_25, ze_106_26, ze_106_29, ze_106_30, ze_106_31, ze_106_33, ze_106_33_n, ze_106_34, ze_106_37, ze_106_40, ze_106_40_n, ze_106_41, ze_106_42, ze_106_43, ze_106_44, ze_106_47, ze_106_50, ze_106_53, ze_106_53_n, ze_106_54, ze_106_57, ze_106_58, ze_106_59, ze_106_60, ze_106_61, ze_106_62, ze_106_62_n, ze_106_63, ze_106_64, ze_106_65, ze_106_66, ze_106_67, ze_106_70, ze_106_73, ze_106_74, ze_106_75, ze_106_75_n, ze_106_76, ze_106_79, ze_106_80, ze_106_81, ze_106_82, ze_106_83, ze_106_84, ze_106_87, ze_106_90, ze_106_91]
end
