/-! all cycles collected; the reference's cycles -/
theorem pc_no2 {S : GS} {i : Nat} (h : ¬ (i / 25 % 5 < i / 5 % 5 ∧ i / 5 % 5 < S.R ∧ S.fl (i / 25 % 5) = true ∧ S.fl (i / 5 % 5) = true ∧ i % 5 < S.C)) : S.pc i = false := by
  cases z : S.pc i
  · rfl
  · unfold GS.pc at z
    simp only [Bool.and_eq_true, decide_eq_true_eq] at z
    obtain ⟨⟨⟨⟨⟨⟨z1, z2⟩, z3⟩, z4⟩, z5⟩, z6⟩, z7⟩ := z
    exact absurd ⟨z1, z2, z3, z4, z5⟩ h
def rkT (a : Nat) : Nat := if a = 0 then 0 else if a = 1 then 4 else if a = 2 then 7 else if a = 3 then 9 else 10
theorem rkT_s {a : Nat} (h : a < 5) : rkT (a + 1) = rkT a + (4 - a) := by
  rcases five h with rfl | rfl | rfl | rfl | rfl <;> rfl
theorem rkT_b (a : Nat) : rkT a ≤ 10 := by
  unfold rkT
  split
  · omega
  · split
    · omega
    · split
      · omega
      · split <;> omega
/-- what is told of a cycle -/
def cv (w i : Nat) : Int32 := if w = 0 then nI (i / 125) else if w = 1 then nI (i / 25 % 5) else if w = 2 then nI (i / 5 % 5) else nI (i % 5)
section
variable {g : z_G} {d : Nat} {f : Nat → Option z_C} {q : Option Nat × Nat × Nat} {P : z_Res → Prop} {B : Nat} {G : Nat → GS} {I : Nat → Int32} {A : Nat → Nat → Int32}
theorem y_pair (hg : GI (G 1)) (hd : 1 < d) {a b : Nat} (hab : a < b) (hb : b < (G 1).R) (fa : (G 1).fl a = true) (fb : (G 1).fl b = true) {cnt : Nat} {e : Nat → Nat} (h0 : cnt ≤ 18) (hI : I 11 = nI cnt) (hS : SO (G 1) (A 28) e cnt (a * 25 + b * 5)) : ∃ cnt' F' e', cnt' ≤ cnt + 2 ∧ SO (G 1) F' e' cnt' (a * 25 + (b + 1) * 5) ∧ ∀ (q : Option Nat × Nat × Nat) (P : z_Res → Prop), z_Ca g d 13 [.ref (B + 27), .int (nI a), .int (nI b)] (xw f B G I A, q) P = P (.inr none, (xw f B G (upd I 11 (nI cnt')) (uA A 28 F'), q)) := by
  have hC := hg.C5
  have hR := hg.RC
  obtain ⟨cnt', F', e', y1, y2, y3⟩ := y_pair1 (g := g) (d := d) (f := f) (B := B) hg hd hab hb fa fb h0 (G 1).C 0 cnt I A e z_un (by omega) hI (by omega) (by omega) hS
  refine ⟨cnt', F', e', y1, SO_skip y2 (by omega) (fun i i1 i2 i3 => pc_no2 (fun z => by omega)), fun q P => ?_⟩
  rw [← y3 q P, zn_13]
  simp (disch := omega) only [ze_13_0, ze_13_1, ze_13_2, ze_13_3, ze_13_7, ze_13_8, ze_13_11, ze_13_14, ze_13_17, ze_13_18, ze_13_20, ze_13_21, ze_13_22, ze_13_23, ze_13_26, ze_13_27, ze_13_28, ze_13_29, ze_13_31, ze_13_34, ze_13_36, ze_13_37, ze_13_39, ze_13_40, ze_13_41, ze_13_42, ze_13_44, ze_13_47, ze_13_50, ze_13_51, ze_13_52, ze_13_54, ze_13_55, ze_13_56, ze_13_57, ze_13_59, ze_13_60, ze_13_61, ze_13_63, ze_13_64, ze_13_67, ze_13_70, ze_13_73, z_k_r, z_push_s, z_push_n, okS_0, okS_I, okS_R, okS_A, List.getElem?_cons_zero, List.getElem?_cons_succ, List.length_cons, List.length_nil, List.set_cons_zero, List.set_cons_succ, true_and, and_true, z_tI, z_tB, pk_mul, nI_add, cI_cl, cI_ix, nar_0, nar_1, nar_b, Nat.reduceAdd, Nat.reduceLT, Nat.reduceMul, sS_0]
  rw [sS_congr (q := sn (G 1) a b 0)]
  intro t ht
  rfl
theorem y_coll1 (hg : GI (G 1)) (hd : 2 < d) {a : Nat} (ha : a < (G 1).R) : ∀ (k b cnt : Nat) (I : Nat → Int32) (A : Nat → Nat → Int32) (e : Nat → Nat), b + k = (G 1).R → a < b → I 11 = nI cnt → cnt ≤ 2 * (rkT a + (b - a - 1)) → SO (G 1) (A 28) e cnt (a * 25 + b * 5) → ∃ cnt' F' e', cnt' ≤ 2 * rkT (a + 1) ∧ SO (G 1) F' e' cnt' ((a + 1) * 25) ∧ ∀ (q : Option Nat × Nat × Nat) (P : z_Res → Prop), z_T g d 12 22 [.ref (B + 27), .int (nI a), .int (nI b)] [] (xw f B G I A, q) P = z_T g d 12 67 [.ref (B + 27), .int (nI a), .int (nI (G 1).R)] [] (xw f B G (upd I 11 (nI cnt')) (uA A 28 F'), q) P
  | 0, b, cnt, I, A, e, h, hab, hI, hc, hS => by
    have hC := hg.C5
    have hR := hg.RC
    have : b = (G 1).R := by omega
    subst this
    have t1 := rkT_s (a := a) (by omega)
    refine ⟨cnt, A 28, e, by omega, SO_skip hS (by omega) (fun i i1 i2 i3 => pc_no2 (fun z => by omega)), fun q P => ?_⟩
    rw [ze_12_22, uA_id, ← hI, upd_eqI]
    simp (disch := omega) only [ze_12_0, ze_12_1, ze_12_2, ze_12_5, ze_12_6, ze_12_7, ze_12_8, ze_12_9, ze_12_12, ze_12_15, ze_12_18, ze_12_19, ze_12_20, ze_12_21, ze_12_23, ze_12_24, ze_12_27, ze_12_30, ze_12_33, ze_12_34, ze_12_37, ze_12_38, ze_12_41, ze_12_44, ze_12_45, ze_12_48, ze_12_49, ze_12_52, ze_12_55, ze_12_56, ze_12_57, ze_12_58, ze_12_61, ze_12_64, ze_12_70, ze_12_73, z_k_r, z_push_s, z_push_n, okS_0, okS_I, okS_R, okS_A, List.getElem?_cons_zero, List.getElem?_cons_succ, List.length_cons, List.length_nil, List.set_cons_zero, List.set_cons_succ, true_and, and_true, z_tI, z_tB, pk_mul, nI_add, cI_cl, cI_ix, nar_0, nar_1, nar_b, Nat.reduceAdd, Nat.reduceLT, Nat.reduceMul, xr_0_0, xr_0_1, xr_0_2, xr_0_3, xr_0_4, xr_0_5, xr_0_6, xr_0_7, xr_0_8, xr_0_9, xg_14, xp_14, xo_0, xr_7_0, xg_0, xp_0, xg_1, xp_1, xg_2, xp_2, xg_3, xp_3, xg_4, xp_4, xg_5, xp_5, xo_7, xr_9_0, xr_9_1, xg_6, xp_6, xg_7, xp_7, xo_9, xr_16_0, xo_16, xr_17_0, xr_17_1, xr_17_2, xg_8, xp_8, xo_17, xr_25_0, xr_25_1, xg_9, xp_9, xg_10, xp_10, xo_25, xr_27_0, xr_27_1, xg_11, xp_11, xo_27, xr_29_0, xg_12, xp_12, xg_13, xp_13, xo_29, xr_41_0, xr_41_1, xo_41, xL_8, xS_8, xL_24, xS_24, xL_26, xS_26, xL_28, xS_28, xL_31, xS_31, xL_32, xS_32, xL_33, xS_33, xL_34, xS_34, xL_35, xS_35, xL_36, xS_36, xL_37, xS_37, xL_38, xS_38, xL_39, xS_39, xL_40, xS_40, xL_43, xS_43, xL_44, xS_44, xL_45, xS_45, xL_46, xS_46, xq_30, xq_42, xr_1_0, xr_1_1, xr_1_2, xr_1_3, xr_1_4, xh_1_0, xh_1_1, xh_1_2, xh_1_3, xh_1_4, xo_1, xL_2, xL_3, xL_4, xL_5, xL_6, xr_10_0, xr_10_1, xr_10_2, xr_10_3, xr_10_4, xh_10_0, xh_10_1, xh_10_2, xh_10_3, xh_10_4, xo_10, xL_11, xL_12, xL_13, xL_14, xL_15, xr_18_0, xr_18_1, xr_18_2, xr_18_3, xr_18_4, xh_18_0, xh_18_1, xh_18_2, xh_18_3, xh_18_4, xo_18, xL_19, xL_20, xL_21, xL_22, xL_23, uA_s, uA_n, uG_s, uG_n, ne_eq, Nat.reduceEqDiff, not_false_eq_true, cI_lt, cI_eq, ↓reduceIte, if_true, if_false, Nat.lt_irrefl, eq_self, Nat.reduceEqDiff, or_true, true_or, or_false, false_or, not_false_eq_true, not_true_eq_false, ce_5, zb_t, zb_f]
  | k + 1, b, cnt, I, A, e, h, hab, hI, hc, hS => by
    have hC := hg.C5
    have hR := hg.RC
    have hb : b < (G 1).R := by omega
    have hd0 : 0 < d := by omega
    have t1 := rkT_s (a := a) (by omega)
    have t2 := rkT_b (a + 1)
    by_cases fa : (G 1).fl a = true
    · by_cases fb : (G 1).fl b = true
      · obtain ⟨c1, F1, e1, r1, r2, r3⟩ := y_pair (g := g) (d := d - 1) (f := f) (B := B) hg (by omega) hab hb fa fb (by omega) hI hS
        obtain ⟨c2, F2, e2, s1, s2, s3⟩ := y_coll1 hg hd ha k (b + 1) c1 (upd I 11 (nI c1)) (uA A 28 F1) e1 (by omega) (by omega) (upd_at _ _ _) (by omega) (by rw [uA_s]; exact r2)
        refine ⟨c2, F2, e2, s1, s2, fun q P => ?_⟩
        rw [upd_upd, uA_uA] at s3
        rw [← s3 q P, ze_12_22]
        simp (disch := omega) only [ze_12_0, ze_12_1, ze_12_2, ze_12_5, ze_12_6, ze_12_7, ze_12_8, ze_12_9, ze_12_12, ze_12_15, ze_12_18, ze_12_19, ze_12_20, ze_12_21, ze_12_23, ze_12_24, ze_12_27, ze_12_30, ze_12_33, ze_12_34, ze_12_37, ze_12_38, ze_12_41, ze_12_44, ze_12_45, ze_12_48, ze_12_49, ze_12_52, ze_12_55, ze_12_56, ze_12_57, ze_12_58, ze_12_61, ze_12_64, ze_12_70, ze_12_73, z_k_r, z_push_s, z_push_n, okS_0, okS_I, okS_R, okS_A, List.getElem?_cons_zero, List.getElem?_cons_succ, List.length_cons, List.length_nil, List.set_cons_zero, List.set_cons_succ, true_and, and_true, z_tI, z_tB, pk_mul, nI_add, cI_cl, cI_ix, nar_0, nar_1, nar_b, Nat.reduceAdd, Nat.reduceLT, Nat.reduceMul, xr_0_0, xr_0_1, xr_0_2, xr_0_3, xr_0_4, xr_0_5, xr_0_6, xr_0_7, xr_0_8, xr_0_9, xg_14, xp_14, xo_0, xr_7_0, xg_0, xp_0, xg_1, xp_1, xg_2, xp_2, xg_3, xp_3, xg_4, xp_4, xg_5, xp_5, xo_7, xr_9_0, xr_9_1, xg_6, xp_6, xg_7, xp_7, xo_9, xr_16_0, xo_16, xr_17_0, xr_17_1, xr_17_2, xg_8, xp_8, xo_17, xr_25_0, xr_25_1, xg_9, xp_9, xg_10, xp_10, xo_25, xr_27_0, xr_27_1, xg_11, xp_11, xo_27, xr_29_0, xg_12, xp_12, xg_13, xp_13, xo_29, xr_41_0, xr_41_1, xo_41, xL_8, xS_8, xL_24, xS_24, xL_26, xS_26, xL_28, xS_28, xL_31, xS_31, xL_32, xS_32, xL_33, xS_33, xL_34, xS_34, xL_35, xS_35, xL_36, xS_36, xL_37, xS_37, xL_38, xS_38, xL_39, xS_39, xL_40, xS_40, xL_43, xS_43, xL_44, xS_44, xL_45, xS_45, xL_46, xS_46, xq_30, xq_42, xr_1_0, xr_1_1, xr_1_2, xr_1_3, xr_1_4, xh_1_0, xh_1_1, xh_1_2, xh_1_3, xh_1_4, xo_1, xL_2, xL_3, xL_4, xL_5, xL_6, xr_10_0, xr_10_1, xr_10_2, xr_10_3, xr_10_4, xh_10_0, xh_10_1, xh_10_2, xh_10_3, xh_10_4, xo_10, xL_11, xL_12, xL_13, xL_14, xL_15, xr_18_0, xr_18_1, xr_18_2, xr_18_3, xr_18_4, xh_18_0, xh_18_1, xh_18_2, xh_18_3, xh_18_4, xo_18, xL_19, xL_20, xL_21, xL_22, xL_23, uA_s, uA_n, uG_s, uG_n, ne_eq, Nat.reduceEqDiff, not_false_eq_true, cI_lt, cI_eq, ↓reduceIte, if_true, if_false, Nat.lt_irrefl, eq_self, Nat.reduceEqDiff, or_true, true_or, or_false, false_or, not_false_eq_true, not_true_eq_false, ce_5, zb_t, zb_f, hb, hd0, x_full hg, fa, fb, zb_0, Bool.true_eq_false, r3]
      · have fb' : (G 1).fl b = false := by simpa using fb
        obtain ⟨c2, F2, e2, s1, s2, s3⟩ := y_coll1 hg hd ha k (b + 1) cnt I A e (by omega) (by omega) hI (by omega) (SO_skip hS (by omega) (fun i i1 i2 i3 => pc_no2 (fun z => fb (by rw [show b = i / 5 % 5 by omega]; exact z.2.2.2.1))))
        refine ⟨c2, F2, e2, s1, s2, fun q P => ?_⟩
        rw [← s3 q P, ze_12_22]
        simp (disch := omega) only [ze_12_0, ze_12_1, ze_12_2, ze_12_5, ze_12_6, ze_12_7, ze_12_8, ze_12_9, ze_12_12, ze_12_15, ze_12_18, ze_12_19, ze_12_20, ze_12_21, ze_12_23, ze_12_24, ze_12_27, ze_12_30, ze_12_33, ze_12_34, ze_12_37, ze_12_38, ze_12_41, ze_12_44, ze_12_45, ze_12_48, ze_12_49, ze_12_52, ze_12_55, ze_12_56, ze_12_57, ze_12_58, ze_12_61, ze_12_64, ze_12_70, ze_12_73, z_k_r, z_push_s, z_push_n, okS_0, okS_I, okS_R, okS_A, List.getElem?_cons_zero, List.getElem?_cons_succ, List.length_cons, List.length_nil, List.set_cons_zero, List.set_cons_succ, true_and, and_true, z_tI, z_tB, pk_mul, nI_add, cI_cl, cI_ix, nar_0, nar_1, nar_b, Nat.reduceAdd, Nat.reduceLT, Nat.reduceMul, xr_0_0, xr_0_1, xr_0_2, xr_0_3, xr_0_4, xr_0_5, xr_0_6, xr_0_7, xr_0_8, xr_0_9, xg_14, xp_14, xo_0, xr_7_0, xg_0, xp_0, xg_1, xp_1, xg_2, xp_2, xg_3, xp_3, xg_4, xp_4, xg_5, xp_5, xo_7, xr_9_0, xr_9_1, xg_6, xp_6, xg_7, xp_7, xo_9, xr_16_0, xo_16, xr_17_0, xr_17_1, xr_17_2, xg_8, xp_8, xo_17, xr_25_0, xr_25_1, xg_9, xp_9, xg_10, xp_10, xo_25, xr_27_0, xr_27_1, xg_11, xp_11, xo_27, xr_29_0, xg_12, xp_12, xg_13, xp_13, xo_29, xr_41_0, xr_41_1, xo_41, xL_8, xS_8, xL_24, xS_24, xL_26, xS_26, xL_28, xS_28, xL_31, xS_31, xL_32, xS_32, xL_33, xS_33, xL_34, xS_34, xL_35, xS_35, xL_36, xS_36, xL_37, xS_37, xL_38, xS_38, xL_39, xS_39, xL_40, xS_40, xL_43, xS_43, xL_44, xS_44, xL_45, xS_45, xL_46, xS_46, xq_30, xq_42, xr_1_0, xr_1_1, xr_1_2, xr_1_3, xr_1_4, xh_1_0, xh_1_1, xh_1_2, xh_1_3, xh_1_4, xo_1, xL_2, xL_3, xL_4, xL_5, xL_6, xr_10_0, xr_10_1, xr_10_2, xr_10_3, xr_10_4, xh_10_0, xh_10_1, xh_10_2, xh_10_3, xh_10_4, xo_10, xL_11, xL_12, xL_13, xL_14, xL_15, xr_18_0, xr_18_1, xr_18_2, xr_18_3, xr_18_4, xh_18_0, xh_18_1, xh_18_2, xh_18_3, xh_18_4, xo_18, xL_19, xL_20, xL_21, xL_22, xL_23, uA_s, uA_n, uG_s, uG_n, ne_eq, Nat.reduceEqDiff, not_false_eq_true, cI_lt, cI_eq, ↓reduceIte, if_true, if_false, Nat.lt_irrefl, eq_self, Nat.reduceEqDiff, or_true, true_or, or_false, false_or, not_false_eq_true, not_true_eq_false, ce_5, zb_t, zb_f, hb, hd0, x_full hg, fa, fb', zb_0, Bool.true_eq_false]
    · have fa' : (G 1).fl a = false := by simpa using fa
      obtain ⟨c2, F2, e2, s1, s2, s3⟩ := y_coll1 hg hd ha k (b + 1) cnt I A e (by omega) (by omega) hI (by omega) (SO_skip hS (by omega) (fun i i1 i2 i3 => pc_no2 (fun z => fa (by rw [show a = i / 25 % 5 by omega]; exact z.2.2.1))))
      refine ⟨c2, F2, e2, s1, s2, fun q P => ?_⟩
      rw [← s3 q P, ze_12_22]
      simp (disch := omega) only [ze_12_0, ze_12_1, ze_12_2, ze_12_5, ze_12_6, ze_12_7, ze_12_8, ze_12_9, ze_12_12, ze_12_15, ze_12_18, ze_12_19, ze_12_20, ze_12_21, ze_12_23, ze_12_24, ze_12_27, ze_12_30, ze_12_33, ze_12_34, ze_12_37, ze_12_38, ze_12_41, ze_12_44, ze_12_45, ze_12_48, ze_12_49, ze_12_52, ze_12_55, ze_12_56, ze_12_57, ze_12_58, ze_12_61, ze_12_64, ze_12_70, ze_12_73, z_k_r, z_push_s, z_push_n, okS_0, okS_I, okS_R, okS_A, List.getElem?_cons_zero, List.getElem?_cons_succ, List.length_cons, List.length_nil, List.set_cons_zero, List.set_cons_succ, true_and, and_true, z_tI, z_tB, pk_mul, nI_add, cI_cl, cI_ix, nar_0, nar_1, nar_b, Nat.reduceAdd, Nat.reduceLT, Nat.reduceMul, xr_0_0, xr_0_1, xr_0_2, xr_0_3, xr_0_4, xr_0_5, xr_0_6, xr_0_7, xr_0_8, xr_0_9, xg_14, xp_14, xo_0, xr_7_0, xg_0, xp_0, xg_1, xp_1, xg_2, xp_2, xg_3, xp_3, xg_4, xp_4, xg_5, xp_5, xo_7, xr_9_0, xr_9_1, xg_6, xp_6, xg_7, xp_7, xo_9, xr_16_0, xo_16, xr_17_0, xr_17_1, xr_17_2, xg_8, xp_8, xo_17, xr_25_0, xr_25_1, xg_9, xp_9, xg_10, xp_10, xo_25, xr_27_0, xr_27_1, xg_11, xp_11, xo_27, xr_29_0, xg_12, xp_12, xg_13, xp_13, xo_29, xr_41_0, xr_41_1, xo_41, xL_8, xS_8, xL_24, xS_24, xL_26, xS_26, xL_28, xS_28, xL_31, xS_31, xL_32, xS_32, xL_33, xS_33, xL_34, xS_34, xL_35, xS_35, xL_36, xS_36, xL_37, xS_37, xL_38, xS_38, xL_39, xS_39, xL_40, xS_40, xL_43, xS_43, xL_44, xS_44, xL_45, xS_45, xL_46, xS_46, xq_30, xq_42, xr_1_0, xr_1_1, xr_1_2, xr_1_3, xr_1_4, xh_1_0, xh_1_1, xh_1_2, xh_1_3, xh_1_4, xo_1, xL_2, xL_3, xL_4, xL_5, xL_6, xr_10_0, xr_10_1, xr_10_2, xr_10_3, xr_10_4, xh_10_0, xh_10_1, xh_10_2, xh_10_3, xh_10_4, xo_10, xL_11, xL_12, xL_13, xL_14, xL_15, xr_18_0, xr_18_1, xr_18_2, xr_18_3, xr_18_4, xh_18_0, xh_18_1, xh_18_2, xh_18_3, xh_18_4, xo_18, xL_19, xL_20, xL_21, xL_22, xL_23, uA_s, uA_n, uG_s, uG_n, ne_eq, Nat.reduceEqDiff, not_false_eq_true, cI_lt, cI_eq, ↓reduceIte, if_true, if_false, Nat.lt_irrefl, eq_self, Nat.reduceEqDiff, or_true, true_or, or_false, false_or, not_false_eq_true, not_true_eq_false, ce_5, zb_t, zb_f, hb, hd0, x_full hg, fa', zb_0]
theorem y_coll2 (hg : GI (G 1)) (hd : 2 < d) : ∀ (k a cnt : Nat) (I : Nat → Int32) (A : Nat → Nat → Int32) (e : Nat → Nat) (v : Value), a + k = (G 1).R → I 11 = nI cnt → cnt ≤ 2 * rkT a → SO (G 1) (A 28) e cnt (a * 25) → ∃ cnt' F' e', cnt' ≤ 20 ∧ SO (G 1) F' e' cnt' 125 ∧ ∀ (q : Option Nat × Nat × Nat) (P : z_Res → Prop), z_T g d 12 7 [.ref (B + 27), .int (nI a), v] [] (xw f B G I A, q) P = P (.inr none, (xw f B G (upd I 11 (nI cnt')) (uA A 28 F'), q))
  | 0, a, cnt, I, A, e, v, h, hI, hc, hS => by
    have hC := hg.C5
    have hR := hg.RC
    have : a = (G 1).R := by omega
    subst this
    have t2 := rkT_b (G 1).R
    refine ⟨cnt, A 28, e, by omega, SO_skip hS (by omega) (fun i i1 i2 i3 => pc_no2 (fun z => by omega)), fun q P => ?_⟩
    rw [ze_12_7, uA_id, ← hI, upd_eqI]
    simp (disch := omega) only [ze_12_0, ze_12_1, ze_12_2, ze_12_5, ze_12_6, ze_12_8, ze_12_9, ze_12_12, ze_12_15, ze_12_18, ze_12_19, ze_12_20, ze_12_21, ze_12_23, ze_12_24, ze_12_27, ze_12_30, ze_12_33, ze_12_34, ze_12_37, ze_12_38, ze_12_41, ze_12_44, ze_12_45, ze_12_48, ze_12_49, ze_12_52, ze_12_55, ze_12_56, ze_12_57, ze_12_58, ze_12_61, ze_12_64, ze_12_67, ze_12_70, ze_12_73, z_k_r, z_push_s, z_push_n, okS_0, okS_I, okS_R, okS_A, List.getElem?_cons_zero, List.getElem?_cons_succ, List.length_cons, List.length_nil, List.set_cons_zero, List.set_cons_succ, true_and, and_true, z_tI, z_tB, pk_mul, nI_add, cI_cl, cI_ix, nar_0, nar_1, nar_b, Nat.reduceAdd, Nat.reduceLT, Nat.reduceMul, xr_0_0, xr_0_1, xr_0_2, xr_0_3, xr_0_4, xr_0_5, xr_0_6, xr_0_7, xr_0_8, xr_0_9, xg_14, xp_14, xo_0, xr_7_0, xg_0, xp_0, xg_1, xp_1, xg_2, xp_2, xg_3, xp_3, xg_4, xp_4, xg_5, xp_5, xo_7, xr_9_0, xr_9_1, xg_6, xp_6, xg_7, xp_7, xo_9, xr_16_0, xo_16, xr_17_0, xr_17_1, xr_17_2, xg_8, xp_8, xo_17, xr_25_0, xr_25_1, xg_9, xp_9, xg_10, xp_10, xo_25, xr_27_0, xr_27_1, xg_11, xp_11, xo_27, xr_29_0, xg_12, xp_12, xg_13, xp_13, xo_29, xr_41_0, xr_41_1, xo_41, xL_8, xS_8, xL_24, xS_24, xL_26, xS_26, xL_28, xS_28, xL_31, xS_31, xL_32, xS_32, xL_33, xS_33, xL_34, xS_34, xL_35, xS_35, xL_36, xS_36, xL_37, xS_37, xL_38, xS_38, xL_39, xS_39, xL_40, xS_40, xL_43, xS_43, xL_44, xS_44, xL_45, xS_45, xL_46, xS_46, xq_30, xq_42, xr_1_0, xr_1_1, xr_1_2, xr_1_3, xr_1_4, xh_1_0, xh_1_1, xh_1_2, xh_1_3, xh_1_4, xo_1, xL_2, xL_3, xL_4, xL_5, xL_6, xr_10_0, xr_10_1, xr_10_2, xr_10_3, xr_10_4, xh_10_0, xh_10_1, xh_10_2, xh_10_3, xh_10_4, xo_10, xL_11, xL_12, xL_13, xL_14, xL_15, xr_18_0, xr_18_1, xr_18_2, xr_18_3, xr_18_4, xh_18_0, xh_18_1, xh_18_2, xh_18_3, xh_18_4, xo_18, xL_19, xL_20, xL_21, xL_22, xL_23, uA_s, uA_n, uG_s, uG_n, ne_eq, Nat.reduceEqDiff, not_false_eq_true, cI_lt, cI_eq, ↓reduceIte, if_true, if_false, Nat.lt_irrefl, eq_self, Nat.reduceEqDiff, or_true, true_or, or_false, false_or, not_false_eq_true, not_true_eq_false, ce_5, zb_t, zb_f]
  | k + 1, a, cnt, I, A, e, v, h, hI, hc, hS => by
    have hC := hg.C5
    have hR := hg.RC
    have ha : a < (G 1).R := by omega
    by_cases hl : a + 1 ≤ (G 1).R
    · obtain ⟨c1, F1, e1, r1, r2, r3⟩ := y_coll1 (g := g) (d := d) (f := f) (B := B) hg hd ha ((G 1).R - (a + 1)) (a + 1) cnt I A e (by omega) (by omega) hI (by omega) (SO_skip hS (by omega) (fun i i1 i2 i3 => pc_no2 (fun z => by omega)))
      obtain ⟨c2, F2, e2, s1, s2, s3⟩ := y_coll2 hg hd k (a + 1) c1 (upd I 11 (nI c1)) (uA A 28 F1) e1 (.int (nI (G 1).R)) (by omega) (upd_at _ _ _) (by omega) (by rw [uA_s]; exact r2)
      refine ⟨c2, F2, e2, s1, s2, fun q P => ?_⟩
      rw [upd_upd, uA_uA] at s3
      rw [← s3 q P, ze_12_7]
      simp (disch := omega) only [ze_12_0, ze_12_1, ze_12_2, ze_12_5, ze_12_6, ze_12_8, ze_12_9, ze_12_12, ze_12_15, ze_12_18, ze_12_19, ze_12_20, ze_12_21, ze_12_23, ze_12_24, ze_12_27, ze_12_30, ze_12_33, ze_12_34, ze_12_37, ze_12_38, ze_12_41, ze_12_44, ze_12_45, ze_12_48, ze_12_49, ze_12_52, ze_12_55, ze_12_56, ze_12_57, ze_12_58, ze_12_61, ze_12_64, ze_12_67, ze_12_70, ze_12_73, z_k_r, z_push_s, z_push_n, okS_0, okS_I, okS_R, okS_A, List.getElem?_cons_zero, List.getElem?_cons_succ, List.length_cons, List.length_nil, List.set_cons_zero, List.set_cons_succ, true_and, and_true, z_tI, z_tB, pk_mul, nI_add, cI_cl, cI_ix, nar_0, nar_1, nar_b, Nat.reduceAdd, Nat.reduceLT, Nat.reduceMul, xr_0_0, xr_0_1, xr_0_2, xr_0_3, xr_0_4, xr_0_5, xr_0_6, xr_0_7, xr_0_8, xr_0_9, xg_14, xp_14, xo_0, xr_7_0, xg_0, xp_0, xg_1, xp_1, xg_2, xp_2, xg_3, xp_3, xg_4, xp_4, xg_5, xp_5, xo_7, xr_9_0, xr_9_1, xg_6, xp_6, xg_7, xp_7, xo_9, xr_16_0, xo_16, xr_17_0, xr_17_1, xr_17_2, xg_8, xp_8, xo_17, xr_25_0, xr_25_1, xg_9, xp_9, xg_10, xp_10, xo_25, xr_27_0, xr_27_1, xg_11, xp_11, xo_27, xr_29_0, xg_12, xp_12, xg_13, xp_13, xo_29, xr_41_0, xr_41_1, xo_41, xL_8, xS_8, xL_24, xS_24, xL_26, xS_26, xL_28, xS_28, xL_31, xS_31, xL_32, xS_32, xL_33, xS_33, xL_34, xS_34, xL_35, xS_35, xL_36, xS_36, xL_37, xS_37, xL_38, xS_38, xL_39, xS_39, xL_40, xS_40, xL_43, xS_43, xL_44, xS_44, xL_45, xS_45, xL_46, xS_46, xq_30, xq_42, xr_1_0, xr_1_1, xr_1_2, xr_1_3, xr_1_4, xh_1_0, xh_1_1, xh_1_2, xh_1_3, xh_1_4, xo_1, xL_2, xL_3, xL_4, xL_5, xL_6, xr_10_0, xr_10_1, xr_10_2, xr_10_3, xr_10_4, xh_10_0, xh_10_1, xh_10_2, xh_10_3, xh_10_4, xo_10, xL_11, xL_12, xL_13, xL_14, xL_15, xr_18_0, xr_18_1, xr_18_2, xr_18_3, xr_18_4, xh_18_0, xh_18_1, xh_18_2, xh_18_3, xh_18_4, xo_18, xL_19, xL_20, xL_21, xL_22, xL_23, uA_s, uA_n, uG_s, uG_n, ne_eq, Nat.reduceEqDiff, not_false_eq_true, cI_lt, cI_eq, ↓reduceIte, if_true, if_false, Nat.lt_irrefl, eq_self, Nat.reduceEqDiff, or_true, true_or, or_false, false_or, not_false_eq_true, not_true_eq_false, ce_5, zb_t, zb_f, ha, r3]
    · omega
theorem y_prop (hg : GI (G 1)) (hd : 3 < d) (x : Int32) {w : Nat} (hw : w < 4) : ∃ cnt F e, cnt ≤ 20 ∧ SO (G 1) F e cnt 125 ∧ ∀ (q : Option Nat × Nat × Nat) (P : z_Res → Prop), z_Ca g d 11 [.ref (B + 27), .int x, .int (nI w)] (xw f B G I A, q) P = P (.inr (some (.int (if okN x cnt = true then cv w (e x.toNatClampNeg) else -1))), (xw f B G (upd I 11 (nI cnt)) (uA A 28 F), q)) := by
  have hd0 : 0 < d := by omega
  obtain ⟨cnt, F, e, c1, c2, c3⟩ := y_coll2 (g := g) (d := d - 1) (f := f) (B := B) hg (by omega) (G 1).R 0 0 (upd I 11 (nI 0)) A (fun _ => 0) z_un (by omega) (upd_at _ _ _) (by omega) ⟨fun i j a b => by omega, fun k hk => by omega, fun k hk => by omega, fun i hi => ⟨fun ⟨j, hj, _⟩ => by omega, fun ⟨_, z⟩ => by omega⟩⟩
  refine ⟨cnt, F, e, c1, c2, fun q P => ?_⟩
  rw [upd_upd] at c3
  have ce : ∀ P, z_Ca g (d - 1) 12 [.ref (B + 27)] (xw f B G I A, q) P = P (.inr none, (xw f B G (upd I 11 (nI cnt)) (uA A 28 F), q)) := fun P => by
    rw [← c3 q P, zn_12]
    simp (disch := omega) only [ze_12_0, ze_12_1, ze_12_2, ze_12_5, ze_12_6, ze_12_8, ze_12_9, ze_12_12, ze_12_15, ze_12_18, ze_12_19, ze_12_20, ze_12_21, ze_12_22, ze_12_23, ze_12_24, ze_12_27, ze_12_30, ze_12_33, ze_12_34, ze_12_37, ze_12_38, ze_12_41, ze_12_44, ze_12_45, ze_12_48, ze_12_49, ze_12_52, ze_12_55, ze_12_56, ze_12_57, ze_12_58, ze_12_61, ze_12_64, ze_12_67, ze_12_70, ze_12_73, z_k_r, z_push_s, z_push_n, okS_0, okS_I, okS_R, okS_A, List.getElem?_cons_zero, List.getElem?_cons_succ, List.length_cons, List.length_nil, List.set_cons_zero, List.set_cons_succ, true_and, and_true, z_tI, z_tB, pk_mul, nI_add, cI_cl, cI_ix, nar_0, nar_1, nar_b, Nat.reduceAdd, Nat.reduceLT, Nat.reduceMul, xr_0_0, xr_0_1, xr_0_2, xr_0_3, xr_0_4, xr_0_5, xr_0_6, xr_0_7, xr_0_8, xr_0_9, xg_14, xp_14, xo_0, xr_7_0, xg_0, xp_0, xg_1, xp_1, xg_2, xp_2, xg_3, xp_3, xg_4, xp_4, xg_5, xp_5, xo_7, xr_9_0, xr_9_1, xg_6, xp_6, xg_7, xp_7, xo_9, xr_16_0, xo_16, xr_17_0, xr_17_1, xr_17_2, xg_8, xp_8, xo_17, xr_25_0, xr_25_1, xg_9, xp_9, xg_10, xp_10, xo_25, xr_27_0, xr_27_1, xg_11, xp_11, xo_27, xr_29_0, xg_12, xp_12, xg_13, xp_13, xo_29, xr_41_0, xr_41_1, xo_41, xL_8, xS_8, xL_24, xS_24, xL_26, xS_26, xL_28, xS_28, xL_31, xS_31, xL_32, xS_32, xL_33, xS_33, xL_34, xS_34, xL_35, xS_35, xL_36, xS_36, xL_37, xS_37, xL_38, xS_38, xL_39, xS_39, xL_40, xS_40, xL_43, xS_43, xL_44, xS_44, xL_45, xS_45, xL_46, xS_46, xq_30, xq_42, xr_1_0, xr_1_1, xr_1_2, xr_1_3, xr_1_4, xh_1_0, xh_1_1, xh_1_2, xh_1_3, xh_1_4, xo_1, xL_2, xL_3, xL_4, xL_5, xL_6, xr_10_0, xr_10_1, xr_10_2, xr_10_3, xr_10_4, xh_10_0, xh_10_1, xh_10_2, xh_10_3, xh_10_4, xo_10, xL_11, xL_12, xL_13, xL_14, xL_15, xr_18_0, xr_18_1, xr_18_2, xr_18_3, xr_18_4, xh_18_0, xh_18_1, xh_18_2, xh_18_3, xh_18_4, xo_18, xL_19, xL_20, xL_21, xL_22, xL_23, uA_s, uA_n, uG_s, uG_n, ne_eq, Nat.reduceEqDiff, not_false_eq_true]
  obtain ⟨h1, h2, h3, h4⟩ := c2
  rw [zn_11]
  simp (disch := omega) only [ze_11_0, ze_11_1, ze_11_4, ze_11_5, ze_11_8, ze_11_9, ze_11_10, ze_11_13, ze_11_16, ze_11_17, ze_11_18, ze_11_19, ze_11_22, ze_11_23, ze_11_24, ze_11_25, ze_11_52, ze_11_53, ze_11_56, ze_11_57, ze_11_58, ze_11_59, ze_11_61, ze_11_62, ze_11_64, ze_11_65, ze_11_66, ze_11_67, ze_11_69, ze_11_70, ze_11_72, ze_11_73, ze_11_74, ze_11_75, ze_11_77, ze_11_78, z_k_r, z_push_s, z_push_n, okS_0, okS_I, okS_R, okS_A, List.getElem?_cons_zero, List.getElem?_cons_succ, List.length_cons, List.length_nil, List.set_cons_zero, List.set_cons_succ, true_and, and_true, z_tI, z_tB, pk_mul, nI_add, cI_cl, cI_ix, nar_0, nar_1, nar_b, Nat.reduceAdd, Nat.reduceLT, Nat.reduceMul, xr_0_0, xr_0_1, xr_0_2, xr_0_3, xr_0_4, xr_0_5, xr_0_6, xr_0_7, xr_0_8, xr_0_9, xg_14, xp_14, xo_0, xr_7_0, xg_0, xp_0, xg_1, xp_1, xg_2, xp_2, xg_3, xp_3, xg_4, xp_4, xg_5, xp_5, xo_7, xr_9_0, xr_9_1, xg_6, xp_6, xg_7, xp_7, xo_9, xr_16_0, xo_16, xr_17_0, xr_17_1, xr_17_2, xg_8, xp_8, xo_17, xr_25_0, xr_25_1, xg_9, xp_9, xg_10, xp_10, xo_25, xr_27_0, xr_27_1, xg_11, xp_11, xo_27, xr_29_0, xg_12, xp_12, xg_13, xp_13, xo_29, xr_41_0, xr_41_1, xo_41, xL_8, xS_8, xL_24, xS_24, xL_26, xS_26, xL_28, xS_28, xL_31, xS_31, xL_32, xS_32, xL_33, xS_33, xL_34, xS_34, xL_35, xS_35, xL_36, xS_36, xL_37, xS_37, xL_38, xS_38, xL_39, xS_39, xL_40, xS_40, xL_43, xS_43, xL_44, xS_44, xL_45, xS_45, xL_46, xS_46, xq_30, xq_42, xr_1_0, xr_1_1, xr_1_2, xr_1_3, xr_1_4, xh_1_0, xh_1_1, xh_1_2, xh_1_3, xh_1_4, xo_1, xL_2, xL_3, xL_4, xL_5, xL_6, xr_10_0, xr_10_1, xr_10_2, xr_10_3, xr_10_4, xh_10_0, xh_10_1, xh_10_2, xh_10_3, xh_10_4, xo_10, xL_11, xL_12, xL_13, xL_14, xL_15, xr_18_0, xr_18_1, xr_18_2, xr_18_3, xr_18_4, xh_18_0, xh_18_1, xh_18_2, xh_18_3, xh_18_4, xo_18, xL_19, xL_20, xL_21, xL_22, xL_23, uA_s, uA_n, uG_s, uG_n, ne_eq, Nat.reduceEqDiff, not_false_eq_true, hd0, ce, upd_at]
  by_cases e1 : x < nI 0
  · have : okN x cnt = false := by unfold okN; simp [e1]
    simp only [e1, this, if_true, if_false, Bool.false_eq_true]
  · obtain ⟨X, hX, rfl⟩ := nI_of e1
    have hX' : X < 2147483648 := hX
    rw [cI_cl hX']
    simp (disch := omega) only [cI_lt, cI_eq, ↓reduceIte, if_true, if_false, Nat.lt_irrefl, eq_self, Nat.reduceEqDiff, or_true, true_or, or_false, false_or, not_false_eq_true, not_true_eq_false, ce_5, zb_t, zb_f, Nat.not_lt_zero]
    by_cases e2 : X < cnt
    · have ok : okN (nI X) cnt = true := okN_nI (by omega) e2
      have b1 := h3 X e2
      have b2 := dg_b b1
      simp (disch := omega) only [e2, ok, if_true, ze_11_0, ze_11_1, ze_11_4, ze_11_5, ze_11_8, ze_11_9, ze_11_10, ze_11_13, ze_11_16, ze_11_17, ze_11_18, ze_11_19, ze_11_22, ze_11_23, ze_11_24, ze_11_25, ze_11_52, ze_11_53, ze_11_56, ze_11_57, ze_11_58, ze_11_59, ze_11_61, ze_11_62, ze_11_64, ze_11_65, ze_11_66, ze_11_67, ze_11_69, ze_11_70, ze_11_72, ze_11_73, ze_11_74, ze_11_75, ze_11_77, ze_11_78, z_k_r, z_push_s, z_push_n, okS_0, okS_I, okS_R, okS_A, List.getElem?_cons_zero, List.getElem?_cons_succ, List.length_cons, List.length_nil, List.set_cons_zero, List.set_cons_succ, true_and, and_true, z_tI, z_tB, pk_mul, nI_add, cI_cl, cI_ix, nar_0, nar_1, nar_b, Nat.reduceAdd, Nat.reduceLT, Nat.reduceMul, xr_0_0, xr_0_1, xr_0_2, xr_0_3, xr_0_4, xr_0_5, xr_0_6, xr_0_7, xr_0_8, xr_0_9, xg_14, xp_14, xo_0, xr_7_0, xg_0, xp_0, xg_1, xp_1, xg_2, xp_2, xg_3, xp_3, xg_4, xp_4, xg_5, xp_5, xo_7, xr_9_0, xr_9_1, xg_6, xp_6, xg_7, xp_7, xo_9, xr_16_0, xo_16, xr_17_0, xr_17_1, xr_17_2, xg_8, xp_8, xo_17, xr_25_0, xr_25_1, xg_9, xp_9, xg_10, xp_10, xo_25, xr_27_0, xr_27_1, xg_11, xp_11, xo_27, xr_29_0, xg_12, xp_12, xg_13, xp_13, xo_29, xr_41_0, xr_41_1, xo_41, xL_8, xS_8, xL_24, xS_24, xL_26, xS_26, xL_28, xS_28, xL_31, xS_31, xL_32, xS_32, xL_33, xS_33, xL_34, xS_34, xL_35, xS_35, xL_36, xS_36, xL_37, xS_37, xL_38, xS_38, xL_39, xS_39, xL_40, xS_40, xL_43, xS_43, xL_44, xS_44, xL_45, xS_45, xL_46, xS_46, xq_30, xq_42, xr_1_0, xr_1_1, xr_1_2, xr_1_3, xr_1_4, xh_1_0, xh_1_1, xh_1_2, xh_1_3, xh_1_4, xo_1, xL_2, xL_3, xL_4, xL_5, xL_6, xr_10_0, xr_10_1, xr_10_2, xr_10_3, xr_10_4, xh_10_0, xh_10_1, xh_10_2, xh_10_3, xh_10_4, xo_10, xL_11, xL_12, xL_13, xL_14, xL_15, xr_18_0, xr_18_1, xr_18_2, xr_18_3, xr_18_4, xh_18_0, xh_18_1, xh_18_2, xh_18_3, xh_18_4, xo_18, xL_19, xL_20, xL_21, xL_22, xL_23, uA_s, uA_n, uG_s, uG_n, ne_eq, Nat.reduceEqDiff, not_false_eq_true, h2 X e2]
      unfold cv
      have dd : dg (e X) / 1000 = e X / 125 ∧ dg (e X) / 100 % 10 = e X / 25 % 5 ∧ dg (e X) / 10 % 10 = e X / 5 % 5 ∧ dg (e X) % 10 = e X % 5 := by
        unfold dg
        omega
      obtain ⟨d1, d2, d3, d4⟩ := dd
      have : w = 0 ∨ w = 1 ∨ w = 2 ∨ w = 3 := by omega
      rcases this with rfl | rfl | rfl | rfl
      · simp (disch := omega) only [ze_11_0, ze_11_1, ze_11_4, ze_11_5, ze_11_8, ze_11_9, ze_11_10, ze_11_13, ze_11_16, ze_11_17, ze_11_18, ze_11_19, ze_11_22, ze_11_23, ze_11_24, ze_11_25, ze_11_26_0, ze_11_26_1, ze_11_26_2, ze_11_26_3, ze_11_52, ze_11_53, ze_11_56, ze_11_57, ze_11_58, ze_11_59, ze_11_61, ze_11_62, ze_11_64, ze_11_65, ze_11_66, ze_11_67, ze_11_69, ze_11_70, ze_11_72, ze_11_73, ze_11_74, ze_11_75, ze_11_77, ze_11_78, z_k_r, z_push_s, z_push_n, okS_0, okS_I, okS_R, okS_A, List.getElem?_cons_zero, List.getElem?_cons_succ, List.length_cons, List.length_nil, List.set_cons_zero, List.set_cons_succ, true_and, and_true, z_tI, z_tB, pk_mul, nI_add, cI_cl, cI_ix, nar_0, nar_1, nar_b, Nat.reduceAdd, Nat.reduceLT, Nat.reduceMul, cI_lt, cI_eq, ↓reduceIte, if_true, if_false, Nat.lt_irrefl, eq_self, Nat.reduceEqDiff, or_true, true_or, or_false, false_or, not_false_eq_true, not_true_eq_false, ce_5, zb_t, zb_f, cI_div, d1]
      · have b3 : dg (e X) / 100 < 100 := by omega
        have m := z_mod (a := dg (e X) / 100) (b := 10) (by omega) (by omega)
        simp (disch := omega) only [ze_11_0, ze_11_1, ze_11_4, ze_11_5, ze_11_8, ze_11_9, ze_11_10, ze_11_13, ze_11_16, ze_11_17, ze_11_18, ze_11_19, ze_11_22, ze_11_23, ze_11_24, ze_11_25, ze_11_26_0, ze_11_26_1, ze_11_26_2, ze_11_26_3, ze_11_52, ze_11_53, ze_11_56, ze_11_57, ze_11_58, ze_11_59, ze_11_61, ze_11_62, ze_11_64, ze_11_65, ze_11_66, ze_11_67, ze_11_69, ze_11_70, ze_11_72, ze_11_73, ze_11_74, ze_11_75, ze_11_77, ze_11_78, z_k_r, z_push_s, z_push_n, okS_0, okS_I, okS_R, okS_A, List.getElem?_cons_zero, List.getElem?_cons_succ, List.length_cons, List.length_nil, List.set_cons_zero, List.set_cons_succ, true_and, and_true, z_tI, z_tB, pk_mul, nI_add, cI_cl, cI_ix, nar_0, nar_1, nar_b, Nat.reduceAdd, Nat.reduceLT, Nat.reduceMul, cI_lt, cI_eq, ↓reduceIte, if_true, if_false, Nat.lt_irrefl, eq_self, Nat.reduceEqDiff, or_true, true_or, or_false, false_or, not_false_eq_true, not_true_eq_false, ce_5, zb_t, zb_f, cI_div, m, d2, Nat.reduceEqDiff] at m ⊢
        rw [m]
      · have b3 : dg (e X) / 10 < 1000 := by omega
        have m := z_mod (a := dg (e X) / 10) (b := 10) (by omega) (by omega)
        simp (disch := omega) only [ze_11_0, ze_11_1, ze_11_4, ze_11_5, ze_11_8, ze_11_9, ze_11_10, ze_11_13, ze_11_16, ze_11_17, ze_11_18, ze_11_19, ze_11_22, ze_11_23, ze_11_24, ze_11_25, ze_11_26_0, ze_11_26_1, ze_11_26_2, ze_11_26_3, ze_11_52, ze_11_53, ze_11_56, ze_11_57, ze_11_58, ze_11_59, ze_11_61, ze_11_62, ze_11_64, ze_11_65, ze_11_66, ze_11_67, ze_11_69, ze_11_70, ze_11_72, ze_11_73, ze_11_74, ze_11_75, ze_11_77, ze_11_78, z_k_r, z_push_s, z_push_n, okS_0, okS_I, okS_R, okS_A, List.getElem?_cons_zero, List.getElem?_cons_succ, List.length_cons, List.length_nil, List.set_cons_zero, List.set_cons_succ, true_and, and_true, z_tI, z_tB, pk_mul, nI_add, cI_cl, cI_ix, nar_0, nar_1, nar_b, Nat.reduceAdd, Nat.reduceLT, Nat.reduceMul, cI_lt, cI_eq, ↓reduceIte, if_true, if_false, Nat.lt_irrefl, eq_self, Nat.reduceEqDiff, or_true, true_or, or_false, false_or, not_false_eq_true, not_true_eq_false, ce_5, zb_t, zb_f, cI_div, m, d3, Nat.reduceEqDiff] at m ⊢
        rw [m]
      · have e4 := Nat.div_mul_le_self (dg (e X)) 10
        simp (disch := omega) only [ze_11_0, ze_11_1, ze_11_4, ze_11_5, ze_11_8, ze_11_9, ze_11_10, ze_11_13, ze_11_16, ze_11_17, ze_11_18, ze_11_19, ze_11_22, ze_11_23, ze_11_24, ze_11_25, ze_11_26_0, ze_11_26_1, ze_11_26_2, ze_11_26_3, ze_11_52, ze_11_53, ze_11_56, ze_11_57, ze_11_58, ze_11_59, ze_11_61, ze_11_62, ze_11_64, ze_11_65, ze_11_66, ze_11_67, ze_11_69, ze_11_70, ze_11_72, ze_11_73, ze_11_74, ze_11_75, ze_11_77, ze_11_78, z_k_r, z_push_s, z_push_n, okS_0, okS_I, okS_R, okS_A, List.getElem?_cons_zero, List.getElem?_cons_succ, List.length_cons, List.length_nil, List.set_cons_zero, List.set_cons_succ, true_and, and_true, z_tI, z_tB, pk_mul, nI_add, cI_cl, cI_ix, nar_0, nar_1, nar_b, Nat.reduceAdd, Nat.reduceLT, Nat.reduceMul, cI_lt, cI_eq, ↓reduceIte, if_true, if_false, Nat.lt_irrefl, eq_self, Nat.reduceEqDiff, or_true, true_or, or_false, false_or, not_false_eq_true, not_true_eq_false, ce_5, zb_t, zb_f, cI_div, cI_sub, Nat.reduceEqDiff]
        rw [← d4]
        congr 5
        omega
    · have ok : okN (nI X) cnt = false := by
        unfold okN
        rw [cI_lt hX' (by omega), cI_lt hX' (by omega), decide_eq_false e2, Bool.and_false]
      simp only [e2, ok, if_false, Bool.false_eq_true]
end
section
variable {g : z_G} {d : Nat} {f : Nat → Option z_C} {q : Option Nat × Nat × Nat} {P : z_Res → Prop} {m : Nat} {I : Nat → Int32} {A : Nat → Nat → Int32} {S : GS}
theorem m_cf1 (hM : MH I A S) (hg : GI S) (hd : 0 < d) {a b c : Nat} (ha : a < 5) (hb : b < 5) (fa : S.fl a = true) (fb : S.fl b = true) (hc : c < S.C) {v w : Value} : ∀ (k i : Nat), i + k = S.pi a b c → z_T g d 177 37 [.ref m, .int (nI a), .int (nI b), v, w, .int (nI i), .int (ce (S.c (b * 5 + c)))] [] (mw f m I A, q) P = z_T g d 177 6 [.ref m, .int (nI a), .int (nI b), v, w, .int (nI (S.pi a b c)), .int (ce (S.c (b * 5 + c)))] [] (mw f m I A, q) P
  | 0, i, h => by
    have hC := hg.C5
    obtain ⟨p1, p2, p3⟩ := pi_sp hg ha hb fa fb hc
    have : i = S.pi a b c := by omega
    subst this
    have e1 := ce_inj (hg.c5 (a * 5 + S.pi a b c)) (hg.c5 (b * 5 + c))
    rw [ze_177_37]
    simp (disch := omega) only [ze_177_0, ze_177_1, ze_177_3, ze_177_4, ze_177_8, ze_177_10, ze_177_11, ze_177_12, ze_177_13, ze_177_16, ze_177_18, ze_177_19, ze_177_21, ze_177_22, ze_177_23, ze_177_25, ze_177_26, ze_177_27, ze_177_29, ze_177_32, ze_177_34, ze_177_35, ze_177_38, ze_177_39, ze_177_41, ze_177_44, ze_177_46, ze_177_49, ze_177_52, ze_177_55, ze_177_58, ze_177_60, z_k_r, z_push_s, z_push_n, okS_0, okS_I, okS_R, okS_A, List.getElem?_cons_zero, List.getElem?_cons_succ, List.length_cons, List.length_nil, List.set_cons_zero, List.set_cons_succ, true_and, and_true, z_tI, z_tB, pk_mul, nI_add, cI_cl, cI_ix, nar_0, nar_1, nar_b, Nat.reduceAdd, Nat.reduceLT, Nat.reduceMul, mg_0, mg_1, mg_2, mg_3, mg_4, mg_5, mg_6, mg_7, mg_8, mg_9, mg_10, mg_11, mg_12, mg_13, mg_14, mg_15, mg_16, mg_17, mg_18, mg_19, mg_20, mg_21, mg_22, mg_23, mg_24, mg_25, mg_26, mg_27, mg_28, mp_0, mp_1, mp_2, mp_3, mp_4, mp_5, mp_6, mp_13, mp_14, mp_15, mp_16, mp_17, mp_18, mp_19, mp_20, mp_21, mp_23, mL_1, mL_2, mL_3, mL_4, mL_5, mL_6, mL_7, mL_8, mL_9, mL_10, mL_11, mL_12, mS_1, mS_2, mS_3, mS_4, mS_5, mS_6, mS_7, mS_8, mS_9, mS_10, mS_11, mS_12, m_gO, uA_s, uA_n, cI_lt, cI_eq, ↓reduceIte, if_true, if_false, Nat.lt_irrefl, eq_self, Nat.reduceEqDiff, or_true, true_or, or_false, false_or, not_false_eq_true, not_true_eq_false, ce_5, zb_t, zb_f, m_at hM, hd, e1, p2]
  | k + 1, i, h => by
    have hC := hg.C5
    obtain ⟨p1, p2, p3⟩ := pi_sp hg ha hb fa fb hc
    have e1 := ce_inj (hg.c5 (a * 5 + i)) (hg.c5 (b * 5 + c))
    have e2 := p3 i (by omega)
    rw [ze_177_37]
    simp (disch := omega) only [ze_177_0, ze_177_1, ze_177_3, ze_177_4, ze_177_8, ze_177_10, ze_177_11, ze_177_12, ze_177_13, ze_177_16, ze_177_18, ze_177_19, ze_177_21, ze_177_22, ze_177_23, ze_177_25, ze_177_26, ze_177_27, ze_177_29, ze_177_32, ze_177_34, ze_177_35, ze_177_38, ze_177_39, ze_177_41, ze_177_44, ze_177_46, ze_177_49, ze_177_52, ze_177_55, ze_177_58, ze_177_60, z_k_r, z_push_s, z_push_n, okS_0, okS_I, okS_R, okS_A, List.getElem?_cons_zero, List.getElem?_cons_succ, List.length_cons, List.length_nil, List.set_cons_zero, List.set_cons_succ, true_and, and_true, z_tI, z_tB, pk_mul, nI_add, cI_cl, cI_ix, nar_0, nar_1, nar_b, Nat.reduceAdd, Nat.reduceLT, Nat.reduceMul, mg_0, mg_1, mg_2, mg_3, mg_4, mg_5, mg_6, mg_7, mg_8, mg_9, mg_10, mg_11, mg_12, mg_13, mg_14, mg_15, mg_16, mg_17, mg_18, mg_19, mg_20, mg_21, mg_22, mg_23, mg_24, mg_25, mg_26, mg_27, mg_28, mp_0, mp_1, mp_2, mp_3, mp_4, mp_5, mp_6, mp_13, mp_14, mp_15, mp_16, mp_17, mp_18, mp_19, mp_20, mp_21, mp_23, mL_1, mL_2, mL_3, mL_4, mL_5, mL_6, mL_7, mL_8, mL_9, mL_10, mL_11, mL_12, mS_1, mS_2, mS_3, mS_4, mS_5, mS_6, mS_7, mS_8, mS_9, mS_10, mS_11, mS_12, m_gO, uA_s, uA_n, cI_lt, cI_eq, ↓reduceIte, if_true, if_false, Nat.lt_irrefl, eq_self, Nat.reduceEqDiff, or_true, true_or, or_false, false_or, not_false_eq_true, not_true_eq_false, ce_5, zb_t, zb_f, m_at hM, hd, e1, e2]
    exact m_cf1 hM hg hd ha hb fa fb hc k (i + 1) (by omega)
theorem m_cyc1 (hM : MH I A S) (hg : GI S) (hd : 0 < d) {a b c : Nat} (ha : a < 5) (hb : b < 5) (fa : S.fl a = true) (fb : S.fl b = true) (hc : c < S.C) {v : Value} : ∀ (k i : Nat) (w : Value), i + k = 6 → (∀ j, j < i → OB (S.pi a b) c j (itn (S.pi a b) c j) = false) → z_T g d 177 6 [.ref m, .int (nI a), .int (nI b), v, .int (sS (OB (S.pi a b) c i)), .int (nI (itn (S.pi a b) c i)), w] [] (mw f m I A, q) P = P (.inr (some (.int (sS (S.cyc a b c)))), (mw f m I A, q))
  | 0, i, w, h, hn => by
    have hC := hg.C5
    have hπ : ∀ c, c < S.C → S.pi a b c < S.C := fun c hc => (pi_sp hg ha hb fa fb hc).1
    have := OB_pop hπ hC hc i hn
    have := pop_lt (OB (S.pi a b) c i)
    omega
  | k + 1, i, w, h, hn => by
    have hC := hg.C5
    have hπ : ∀ c, c < S.C → S.pi a b c < S.C := fun c hc => (pi_sp hg ha hb fa fb hc).1
    have hl := itn_lt hπ hc i
    rw [ze_177_6]
    cases e : OB (S.pi a b) c i (itn (S.pi a b) c i)
    · simp (disch := omega) only [ze_177_0, ze_177_1, ze_177_3, ze_177_4, ze_177_8, ze_177_10, ze_177_11, ze_177_12, ze_177_13, ze_177_16, ze_177_18, ze_177_19, ze_177_21, ze_177_22, ze_177_23, ze_177_25, ze_177_26, ze_177_27, ze_177_29, ze_177_32, ze_177_34, ze_177_35, ze_177_38, ze_177_39, ze_177_41, ze_177_44, ze_177_46, ze_177_49, ze_177_52, ze_177_55, ze_177_58, ze_177_60, z_k_r, z_push_s, z_push_n, okS_0, okS_I, okS_R, okS_A, List.getElem?_cons_zero, List.getElem?_cons_succ, List.length_cons, List.length_nil, List.set_cons_zero, List.set_cons_succ, true_and, and_true, z_tI, z_tB, pk_mul, nI_add, cI_cl, cI_ix, nar_0, nar_1, nar_b, Nat.reduceAdd, Nat.reduceLT, Nat.reduceMul, mg_0, mg_1, mg_2, mg_3, mg_4, mg_5, mg_6, mg_7, mg_8, mg_9, mg_10, mg_11, mg_12, mg_13, mg_14, mg_15, mg_16, mg_17, mg_18, mg_19, mg_20, mg_21, mg_22, mg_23, mg_24, mg_25, mg_26, mg_27, mg_28, mp_0, mp_1, mp_2, mp_3, mp_4, mp_5, mp_6, mp_13, mp_14, mp_15, mp_16, mp_17, mp_18, mp_19, mp_20, mp_21, mp_23, mL_1, mL_2, mL_3, mL_4, mL_5, mL_6, mL_7, mL_8, mL_9, mL_10, mL_11, mL_12, mS_1, mS_2, mS_3, mS_4, mS_5, mS_6, mS_7, mS_8, mS_9, mS_10, mS_11, mS_12, m_gO, uA_s, uA_n, cI_lt, cI_eq, ↓reduceIte, if_true, if_false, Nat.lt_irrefl, eq_self, Nat.reduceEqDiff, or_true, true_or, or_false, false_or, not_false_eq_true, not_true_eq_false, ce_5, zb_t, zb_f, sS_bit, e, m_at hM, hd, sS_one, sS_or]
      rw [m_cf1 hM hg hd ha hb fa fb hl _ 0 (Nat.zero_add _), ← OB_step]
      exact m_cyc1 hM hg hd ha hb fa fb hc k (i + 1) _ (by omega) (fun j hj => by
        by_cases z : j = i
        · rw [z]; exact e
        · exact hn j (by omega))
    · simp (disch := omega) only [ze_177_0, ze_177_1, ze_177_3, ze_177_4, ze_177_8, ze_177_10, ze_177_11, ze_177_12, ze_177_13, ze_177_16, ze_177_18, ze_177_19, ze_177_21, ze_177_22, ze_177_23, ze_177_25, ze_177_26, ze_177_27, ze_177_29, ze_177_32, ze_177_34, ze_177_35, ze_177_38, ze_177_39, ze_177_41, ze_177_44, ze_177_46, ze_177_49, ze_177_52, ze_177_55, ze_177_58, ze_177_60, z_k_r, z_push_s, z_push_n, okS_0, okS_I, okS_R, okS_A, List.getElem?_cons_zero, List.getElem?_cons_succ, List.length_cons, List.length_nil, List.set_cons_zero, List.set_cons_succ, true_and, and_true, z_tI, z_tB, pk_mul, nI_add, cI_cl, cI_ix, nar_0, nar_1, nar_b, Nat.reduceAdd, Nat.reduceLT, Nat.reduceMul, mg_0, mg_1, mg_2, mg_3, mg_4, mg_5, mg_6, mg_7, mg_8, mg_9, mg_10, mg_11, mg_12, mg_13, mg_14, mg_15, mg_16, mg_17, mg_18, mg_19, mg_20, mg_21, mg_22, mg_23, mg_24, mg_25, mg_26, mg_27, mg_28, mp_0, mp_1, mp_2, mp_3, mp_4, mp_5, mp_6, mp_13, mp_14, mp_15, mp_16, mp_17, mp_18, mp_19, mp_20, mp_21, mp_23, mL_1, mL_2, mL_3, mL_4, mL_5, mL_6, mL_7, mL_8, mL_9, mL_10, mL_11, mL_12, mS_1, mS_2, mS_3, mS_4, mS_5, mS_6, mS_7, mS_8, mS_9, mS_10, mS_11, mS_12, m_gO, uA_s, uA_n, cI_lt, cI_eq, ↓reduceIte, if_true, if_false, Nat.lt_irrefl, eq_self, Nat.reduceEqDiff, or_true, true_or, or_false, false_or, not_false_eq_true, not_true_eq_false, ce_5, zb_t, zb_f, sS_bit, e]
      rw [OB_eq hπ hC hc e]
      rfl
theorem m_cyc (hM : MH I A S) (hg : GI S) (hd : 0 < d) {a b c : Nat} (ha : a < 5) (hb : b < 5) (fa : S.fl a = true) (fb : S.fl b = true) (hc : c < S.C) : z_Ca g d 177 [.ref m, .int (nI a), .int (nI b), .int (nI c)] (mw f m I A, q) P = P (.inr (some (.int (sS (S.cyc a b c)))), (mw f m I A, q)) := by
  have := m_cyc1 (g := g) (f := f) (q := q) (P := P) (m := m) hM hg hd ha hb fa fb hc (v := .int (nI c)) 6 0 z_un (by omega) (fun j hj => by omega)
  rw [← this, zn_177]
  simp (disch := omega) only [ze_177_0, ze_177_1, ze_177_3, ze_177_4, ze_177_8, ze_177_10, ze_177_11, ze_177_12, ze_177_13, ze_177_16, ze_177_18, ze_177_19, ze_177_21, ze_177_22, ze_177_23, ze_177_25, ze_177_26, ze_177_27, ze_177_29, ze_177_32, ze_177_34, ze_177_35, ze_177_37, ze_177_38, ze_177_39, ze_177_41, ze_177_44, ze_177_46, ze_177_49, ze_177_52, ze_177_55, ze_177_58, ze_177_60, z_k_r, z_push_s, z_push_n, okS_0, okS_I, okS_R, okS_A, List.getElem?_cons_zero, List.getElem?_cons_succ, List.length_cons, List.length_nil, List.set_cons_zero, List.set_cons_succ, true_and, and_true, z_tI, z_tB, pk_mul, nI_add, cI_cl, cI_ix, nar_0, nar_1, nar_b, Nat.reduceAdd, Nat.reduceLT, Nat.reduceMul, sS_0]
  rw [sS_congr (q := OB (S.pi a b) c 0)]
  · rfl
  · intro t ht
    rfl
theorem oe_split {p : Nat → Bool} {x : Int32} {K : Nat → Prop} {E : Prop} : ∀ (k1 k2 i t : Nat), oe (kf p x i (k1 + k2) t) K E = oe (kf p x i k1 t) K (oe (kf p x (i + k1) k2 (t + ct p i k1)) K E)
  | 0, k2, i, t => by rw [Nat.zero_add, Nat.add_zero, ct_z, Nat.add_zero]; rfl
  | k1 + 1, k2, i, t => by
    rw [show k1 + 1 + k2 = (k1 + k2) + 1 by omega, ct_s]
    conv => lhs; unfold kf
    conv => rhs; unfold kf
    cases e : p i
    · rw [if_neg Bool.false_ne_true, if_neg Bool.false_ne_true, oe_split k1 k2 (i + 1) t, Bool.toNat_false, Nat.zero_add, show i + 1 + k1 = i + (k1 + 1) by omega]
      cases kf p x (i + 1) k1 t
      · rw [oe_n, oe_n]
        cases k2
        · rfl
        · unfold kf
          rfl
      · rfl
    · rw [if_pos rfl, if_pos rfl]
      by_cases q : x = nI t
      · rw [if_pos q, if_pos q]
        rfl
      · rw [if_neg q, if_neg q, oe_split k1 k2 (i + 1) (t + 1), Bool.toNat_true, show i + 1 + k1 = i + (k1 + 1) by omega, show t + 1 + ct p (i + 1) k1 = t + (1 + ct p (i + 1) k1) by omega]
theorem oe_none {p : Nat → Bool} {x : Int32} {K : Nat → Prop} {E : Prop} {k i t : Nat} (h : ∀ j, i ≤ j → j < i + k → p j = false) : oe (kf p x i k t) K E = E := by rw [kf_none k i t h]; rfl
end
