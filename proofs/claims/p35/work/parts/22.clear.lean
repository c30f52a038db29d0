/-! a Grid emptied, begun, loaded, copied -/
section
variable {g : z_G} {d : Nat} {f : Nat → Option z_C} {q : Option Nat × Nat × Nat} {P : z_Res → Prop} {a : Nat}
theorem s_clear1 : ∀ (k i : Nat) (W : GW), i + k = 25 → z_T g d 25 7 [.ref a, .int (nI i)] [] (gw f a W, q) P = z_T g d 25 26 [.ref a, .int (nI 25)] [] (gw f a ⟨fun x => if i ≤ x then -1 else W.A x, W.V, W.B, W.r, W.c, W.R, W.C, W.F, W.G, W.N⟩, q) P
  | 0, i, W, h => by
    have : i = 25 := by omega
    subst this
    rw [ze_25_7]
    simp (disch := omega) only [ze_25_0, ze_25_1, ze_25_2, ze_25_5, ze_25_6, ze_25_8, ze_25_10, ze_25_13, ze_25_14, ze_25_17, ze_25_18, ze_25_19, ze_25_20, ze_25_23, ze_25_27, ze_25_28, ze_25_29, ze_25_30, ze_25_33, ze_25_34, ze_25_37, ze_25_38, ze_25_39, ze_25_40, ze_25_41, ze_25_44, ze_25_45, ze_25_46, ze_25_47, ze_25_50, ze_25_53, z_gI, z_gR, z_pF, z_aL, z_aS, z_gO, z_k_r, z_push_s, z_push_n, okS_0, okS_I, okS_R, okS_A, List.getElem?_cons_zero, List.getElem?_cons_succ, List.length_cons, List.length_nil, List.set_cons_zero, List.set_cons_succ, true_and, and_true, z_tI, z_tB, pk_mul, nI_add, cI_cl, cI_ix, arr_at, arr_upd, nar_0, nar_1, nar_b, Nat.reduceAdd, Nat.reduceLT, Nat.reduceMul, cI_lt, cI_eq, if_true, if_false, Nat.lt_irrefl, eq_self, Nat.reduceEqDiff, or_true, true_or, or_false, not_false_eq_true, not_true_eq_false, ce_5]
    refine congrArg (fun z => z_T g d 25 26 [.ref a, .int (nI 25)] [] (z, q) P) (gw_congr _ _ (fun k hk => ?_) (fun k _ => rfl) (fun k _ => rfl) (fun k _ => rfl) (fun k _ => rfl) ⟨rfl, rfl, rfl, rfl, rfl⟩)
    exact (if_neg (by omega)).symm
  | k + 1, i, W, h => by
    have hi : i < 25 := by omega
    rw [ze_25_7]
    simp (disch := omega) only [ze_25_0, ze_25_1, ze_25_2, ze_25_5, ze_25_6, ze_25_8, ze_25_10, ze_25_13, ze_25_14, ze_25_17, ze_25_18, ze_25_19, ze_25_20, ze_25_23, ze_25_27, ze_25_28, ze_25_29, ze_25_30, ze_25_33, ze_25_34, ze_25_37, ze_25_38, ze_25_39, ze_25_40, ze_25_41, ze_25_44, ze_25_45, ze_25_46, ze_25_47, ze_25_50, ze_25_53, z_gI, z_gR, z_pF, z_aL, z_aS, z_gO, z_k_r, z_push_s, z_push_n, okS_0, okS_I, okS_R, okS_A, List.getElem?_cons_zero, List.getElem?_cons_succ, List.length_cons, List.length_nil, List.set_cons_zero, List.set_cons_succ, true_and, and_true, z_tI, z_tB, pk_mul, nI_add, cI_cl, cI_ix, arr_at, arr_upd, nar_0, nar_1, nar_b, Nat.reduceAdd, Nat.reduceLT, Nat.reduceMul, cI_lt, cI_eq, if_true, if_false, Nat.lt_irrefl, eq_self, Nat.reduceEqDiff, or_true, true_or, or_false, not_false_eq_true, not_true_eq_false, ce_5, pGW_A, pGW_V, pGW_B, pGW_r, pGW_c, pGW_R, pGW_C, pGW_F, pGW_G, pGW_N, pGS_c, pGS_gv, pGS_b, pGS_R, pGS_C, pGS_G, pGS_N, gw_0, gw_1, gw_2, gw_3, gw_4, gw_5, gw_u0, gw_u1, gw_u2, gw_u3, gw_u4, gw_u5, hi]
    rw [s_clear1 k (i + 1) _ (by omega)]
    refine congrArg (fun z => z_T g d 25 26 [.ref a, .int (nI 25)] [] (z, q) P) (gw_congr _ _ (fun x hk => ?_) (fun k _ => rfl) (fun k _ => rfl) (fun k _ => rfl) (fun k _ => rfl) ⟨rfl, rfl, rfl, rfl, rfl⟩)
    show (if i + 1 ≤ x then -1 else upd W.A i (-1) x) = if i ≤ x then -1 else W.A x
    by_cases e : x = i
    · subst e
      rw [upd_at, if_pos (Nat.le_refl _)]
      split <;> rfl
    · rw [upd_ne e]
      by_cases e2 : i ≤ x
      · rw [if_pos (by omega), if_pos e2]
      · rw [if_neg (by omega), if_neg e2]
theorem s_clear2 : ∀ (k i : Nat) (W : GW), i + k = 5 → z_T g d 25 28 [.ref a, .int (nI i)] [] (gw f a W, q) P = P (.inr none, (gw f a ⟨W.A, W.V, W.B, fun x => if i ≤ x then 0 else W.r x, fun x => if i ≤ x then 0 else W.c x, W.R, W.C, W.F, W.G, W.N⟩, q))
  | 0, i, W, h => by
    have : i = 5 := by omega
    subst this
    rw [ze_25_28]
    simp (disch := omega) only [ze_25_0, ze_25_1, ze_25_2, ze_25_5, ze_25_6, ze_25_7, ze_25_8, ze_25_10, ze_25_13, ze_25_14, ze_25_17, ze_25_18, ze_25_19, ze_25_20, ze_25_23, ze_25_26, ze_25_27, ze_25_29, ze_25_30, ze_25_33, ze_25_34, ze_25_37, ze_25_38, ze_25_39, ze_25_40, ze_25_41, ze_25_44, ze_25_45, ze_25_46, ze_25_47, ze_25_50, ze_25_53, z_gI, z_gR, z_pF, z_aL, z_aS, z_gO, z_k_r, z_push_s, z_push_n, okS_0, okS_I, okS_R, okS_A, List.getElem?_cons_zero, List.getElem?_cons_succ, List.length_cons, List.length_nil, List.set_cons_zero, List.set_cons_succ, true_and, and_true, z_tI, z_tB, pk_mul, nI_add, cI_cl, cI_ix, arr_at, arr_upd, nar_0, nar_1, nar_b, Nat.reduceAdd, Nat.reduceLT, Nat.reduceMul, cI_lt, cI_eq, if_true, if_false, Nat.lt_irrefl, eq_self, Nat.reduceEqDiff, or_true, true_or, or_false, not_false_eq_true, not_true_eq_false, ce_5]
    refine congrArg (fun z => P (.inr none, (z, q))) (gw_congr _ _ (fun k hk => rfl) (fun k _ => rfl) (fun k _ => rfl) (fun k _ => ?_) (fun k _ => ?_) ⟨rfl, rfl, rfl, rfl, rfl⟩)
    · exact (if_neg (by omega)).symm
    · exact (if_neg (by omega)).symm
  | k + 1, i, W, h => by
    have hi : i < 5 := by omega
    rw [ze_25_28]
    simp (disch := omega) only [ze_25_0, ze_25_1, ze_25_2, ze_25_5, ze_25_6, ze_25_7, ze_25_8, ze_25_10, ze_25_13, ze_25_14, ze_25_17, ze_25_18, ze_25_19, ze_25_20, ze_25_23, ze_25_26, ze_25_27, ze_25_29, ze_25_30, ze_25_33, ze_25_34, ze_25_37, ze_25_38, ze_25_39, ze_25_40, ze_25_41, ze_25_44, ze_25_45, ze_25_46, ze_25_47, ze_25_50, ze_25_53, z_gI, z_gR, z_pF, z_aL, z_aS, z_gO, z_k_r, z_push_s, z_push_n, okS_0, okS_I, okS_R, okS_A, List.getElem?_cons_zero, List.getElem?_cons_succ, List.length_cons, List.length_nil, List.set_cons_zero, List.set_cons_succ, true_and, and_true, z_tI, z_tB, pk_mul, nI_add, cI_cl, cI_ix, arr_at, arr_upd, nar_0, nar_1, nar_b, Nat.reduceAdd, Nat.reduceLT, Nat.reduceMul, cI_lt, cI_eq, if_true, if_false, Nat.lt_irrefl, eq_self, Nat.reduceEqDiff, or_true, true_or, or_false, not_false_eq_true, not_true_eq_false, ce_5, pGW_A, pGW_V, pGW_B, pGW_r, pGW_c, pGW_R, pGW_C, pGW_F, pGW_G, pGW_N, pGS_c, pGS_gv, pGS_b, pGS_R, pGS_C, pGS_G, pGS_N, gw_0, gw_1, gw_2, gw_3, gw_4, gw_5, gw_u0, gw_u1, gw_u2, gw_u3, gw_u4, gw_u5, hi]
    rw [s_clear2 k (i + 1) _ (by omega)]
    have key : ∀ (F : Nat → Int32) x, (if i + 1 ≤ x then 0 else upd F i (nI 0) x) = if i ≤ x then 0 else F x := by
      intro F x
      by_cases e : x = i
      · subst e
        rw [upd_at, if_pos (Nat.le_refl _)]
        split <;> rfl
      · rw [upd_ne e]
        by_cases e2 : i ≤ x
        · rw [if_pos (by omega), if_pos e2]
        · rw [if_neg (by omega), if_neg e2]
    exact congrArg (fun z => P (.inr none, (z, q))) (gw_congr _ _ (fun k hk => rfl) (fun k _ => rfl) (fun k _ => rfl) (fun k _ => key _ _) (fun k _ => key _ _) ⟨rfl, rfl, rfl, rfl, rfl⟩)
theorem s_clear (W : GW) : z_Ca g d 25 [.ref a] (gw f a W, q) P = P (.inr none, (gw f a ⟨fun _ => -1, W.V, W.B, fun _ => 0, fun _ => 0, W.R, W.C, nI 0, W.G, W.N⟩, q)) := by
  rw [zn_25]
  simp (disch := omega) only [ze_25_0, ze_25_1, ze_25_2, ze_25_5, ze_25_6, ze_25_8, ze_25_10, ze_25_13, ze_25_14, ze_25_17, ze_25_18, ze_25_19, ze_25_20, ze_25_23, ze_25_26, ze_25_27, ze_25_29, ze_25_30, ze_25_33, ze_25_34, ze_25_37, ze_25_38, ze_25_39, ze_25_40, ze_25_41, ze_25_44, ze_25_45, ze_25_46, ze_25_47, ze_25_50, ze_25_53, z_gI, z_gR, z_pF, z_aL, z_aS, z_gO, z_k_r, z_push_s, z_push_n, okS_0, okS_I, okS_R, okS_A, List.getElem?_cons_zero, List.getElem?_cons_succ, List.length_cons, List.length_nil, List.set_cons_zero, List.set_cons_succ, true_and, and_true, z_tI, z_tB, pk_mul, nI_add, cI_cl, cI_ix, arr_at, arr_upd, nar_0, nar_1, nar_b, Nat.reduceAdd, Nat.reduceLT, Nat.reduceMul, pGW_A, pGW_V, pGW_B, pGW_r, pGW_c, pGW_R, pGW_C, pGW_F, pGW_G, pGW_N, pGS_c, pGS_gv, pGS_b, pGS_R, pGS_C, pGS_G, pGS_N, gw_0, gw_1, gw_2, gw_3, gw_4, gw_5, gw_u0, gw_u1, gw_u2, gw_u3, gw_u4, gw_u5]
  rw [s_clear1 25 0 _ rfl]
  simp (disch := omega) only [ze_25_0, ze_25_1, ze_25_2, ze_25_5, ze_25_6, ze_25_8, ze_25_10, ze_25_13, ze_25_14, ze_25_17, ze_25_18, ze_25_19, ze_25_20, ze_25_23, ze_25_26, ze_25_27, ze_25_29, ze_25_30, ze_25_33, ze_25_34, ze_25_37, ze_25_38, ze_25_39, ze_25_40, ze_25_41, ze_25_44, ze_25_45, ze_25_46, ze_25_47, ze_25_50, ze_25_53, z_gI, z_gR, z_pF, z_aL, z_aS, z_gO, z_k_r, z_push_s, z_push_n, okS_0, okS_I, okS_R, okS_A, List.getElem?_cons_zero, List.getElem?_cons_succ, List.length_cons, List.length_nil, List.set_cons_zero, List.set_cons_succ, true_and, and_true, z_tI, z_tB, pk_mul, nI_add, cI_cl, cI_ix, arr_at, arr_upd, nar_0, nar_1, nar_b, Nat.reduceAdd, Nat.reduceLT, Nat.reduceMul, pGW_A, pGW_V, pGW_B, pGW_r, pGW_c, pGW_R, pGW_C, pGW_F, pGW_G, pGW_N, pGS_c, pGS_gv, pGS_b, pGS_R, pGS_C, pGS_G, pGS_N, gw_0, gw_1, gw_2, gw_3, gw_4, gw_5, gw_u0, gw_u1, gw_u2, gw_u3, gw_u4, gw_u5]
  rw [s_clear2 5 0 _ rfl]
  simp only [Nat.zero_le, if_true, pGW_A, pGW_V, pGW_B, pGW_r, pGW_c, pGW_R, pGW_C, pGW_F, pGW_G, pGW_N, pGS_c, pGS_gv, pGS_b, pGS_R, pGS_C, pGS_G, pGS_N]
/-- an empty rectangle -/
def S0 (R C : Nat) : GS := ⟨fun _ => 5, fun _ => false, fun _ _ => false, R, C, 0, 0⟩
theorem rU_5 (r s : Nat) (h : s < 5) : rU (fun _ => 5) r s = false := by
  have : (5 == s) = false := by rw [beq_eq_false_iff_ne]; omega
  unfold rU
  simp only [this, Bool.or_self]
theorem cU_5 (r s : Nat) (h : s < 5) : cU (fun _ => 5) r s = false := by
  have : (5 == s) = false := by rw [beq_eq_false_iff_ne]; omega
  unfold cU
  simp only [this, Bool.or_self, Bool.and_false]
theorem nF_5 : nF (fun _ => 5) 25 = 0 := by decide
theorem s_begin1 : ∀ (k i : Nat) (W : GW) (x1 x2 : Int32), i + k = 25 → z_T g d 24 22 [.ref a, .int x1, .int x2, .int (nI i)] [] (gw f a W, q) P = z_T g d 24 48 [.ref a, .int x1, .int x2, .int (nI 25)] [] (gw f a ⟨W.A, fun x => if i ≤ x then 0 else W.V x, fun x => if i ≤ x then 0 else W.B x, W.r, W.c, W.R, W.C, W.F, W.G, W.N⟩, q) P
  | 0, i, W, x1, x2, h => by
    have : i = 25 := by omega
    subst this
    rw [ze_24_22]
    simp (disch := omega) only [ze_24_0, ze_24_1, ze_24_2, ze_24_5, ze_24_6, ze_24_7, ze_24_10, ze_24_11, ze_24_12, ze_24_15, ze_24_16, ze_24_17, ze_24_20, ze_24_21, ze_24_23, ze_24_25, ze_24_28, ze_24_29, ze_24_32, ze_24_33, ze_24_34, ze_24_35, ze_24_36, ze_24_39, ze_24_40, ze_24_41, ze_24_42, ze_24_45, ze_24_49, ze_24_52, z_gI, z_gR, z_pF, z_aL, z_aS, z_gO, z_k_r, z_push_s, z_push_n, okS_0, okS_I, okS_R, okS_A, List.getElem?_cons_zero, List.getElem?_cons_succ, List.length_cons, List.length_nil, List.set_cons_zero, List.set_cons_succ, true_and, and_true, z_tI, z_tB, pk_mul, nI_add, cI_cl, cI_ix, arr_at, arr_upd, nar_0, nar_1, nar_b, Nat.reduceAdd, Nat.reduceLT, Nat.reduceMul, cI_lt, cI_eq, if_true, if_false, Nat.lt_irrefl, eq_self, Nat.reduceEqDiff, or_true, true_or, or_false, not_false_eq_true, not_true_eq_false, ce_5]
    refine congrArg (fun z => z_T g d 24 48 [.ref a, .int x1, .int x2, .int (nI 25)] [] (z, q) P) (gw_congr _ _ (fun k hk => rfl) (fun k _ => ?_) (fun k _ => ?_) (fun k _ => rfl) (fun k _ => rfl) ⟨rfl, rfl, rfl, rfl, rfl⟩)
    · exact (if_neg (by omega)).symm
    · exact (if_neg (by omega)).symm
  | k + 1, i, W, x1, x2, h => by
    have hi : i < 25 := by omega
    rw [ze_24_22]
    simp (disch := omega) only [ze_24_0, ze_24_1, ze_24_2, ze_24_5, ze_24_6, ze_24_7, ze_24_10, ze_24_11, ze_24_12, ze_24_15, ze_24_16, ze_24_17, ze_24_20, ze_24_21, ze_24_23, ze_24_25, ze_24_28, ze_24_29, ze_24_32, ze_24_33, ze_24_34, ze_24_35, ze_24_36, ze_24_39, ze_24_40, ze_24_41, ze_24_42, ze_24_45, ze_24_49, ze_24_52, z_gI, z_gR, z_pF, z_aL, z_aS, z_gO, z_k_r, z_push_s, z_push_n, okS_0, okS_I, okS_R, okS_A, List.getElem?_cons_zero, List.getElem?_cons_succ, List.length_cons, List.length_nil, List.set_cons_zero, List.set_cons_succ, true_and, and_true, z_tI, z_tB, pk_mul, nI_add, cI_cl, cI_ix, arr_at, arr_upd, nar_0, nar_1, nar_b, Nat.reduceAdd, Nat.reduceLT, Nat.reduceMul, cI_lt, cI_eq, if_true, if_false, Nat.lt_irrefl, eq_self, Nat.reduceEqDiff, or_true, true_or, or_false, not_false_eq_true, not_true_eq_false, ce_5, pGW_A, pGW_V, pGW_B, pGW_r, pGW_c, pGW_R, pGW_C, pGW_F, pGW_G, pGW_N, pGS_c, pGS_gv, pGS_b, pGS_R, pGS_C, pGS_G, pGS_N, gw_0, gw_1, gw_2, gw_3, gw_4, gw_5, gw_u0, gw_u1, gw_u2, gw_u3, gw_u4, gw_u5, hi]
    rw [s_begin1 k (i + 1) _ _ _ (by omega)]
    have key : ∀ (F : Nat → Int32) x, (if i + 1 ≤ x then 0 else upd F i (nI 0) x) = if i ≤ x then 0 else F x := by
      intro F x
      by_cases e : x = i
      · subst e
        rw [upd_at, if_pos (Nat.le_refl _)]
        split <;> rfl
      · rw [upd_ne e]
        by_cases e2 : i ≤ x
        · rw [if_pos (by omega), if_pos e2]
        · rw [if_neg (by omega), if_neg e2]
    exact congrArg (fun z => z_T g d 24 48 [.ref a, .int x1, .int x2, .int (nI 25)] [] (z, q) P) (gw_congr _ _ (fun k hk => rfl) (fun k _ => key _ _) (fun k _ => key _ _) (fun k _ => rfl) (fun k _ => rfl) ⟨rfl, rfl, rfl, rfl, rfl⟩)
theorem s_begin (W : GW) (hd : 0 < d) {R C : Nat} : z_Ca g d 24 [.ref a, .int (nI R), .int (nI C)] (gw f a W, q) P = P (.inr none, (gw f a (S0 R C).w, q)) := by
  rw [zn_24]
  simp (disch := omega) only [ze_24_0, ze_24_1, ze_24_2, ze_24_5, ze_24_6, ze_24_7, ze_24_10, ze_24_11, ze_24_12, ze_24_15, ze_24_16, ze_24_17, ze_24_20, ze_24_21, ze_24_23, ze_24_25, ze_24_28, ze_24_29, ze_24_32, ze_24_33, ze_24_34, ze_24_35, ze_24_36, ze_24_39, ze_24_40, ze_24_41, ze_24_42, ze_24_45, ze_24_48, ze_24_49, ze_24_52, z_gI, z_gR, z_pF, z_aL, z_aS, z_gO, z_k_r, z_push_s, z_push_n, okS_0, okS_I, okS_R, okS_A, List.getElem?_cons_zero, List.getElem?_cons_succ, List.length_cons, List.length_nil, List.set_cons_zero, List.set_cons_succ, true_and, and_true, z_tI, z_tB, pk_mul, nI_add, cI_cl, cI_ix, arr_at, arr_upd, nar_0, nar_1, nar_b, Nat.reduceAdd, Nat.reduceLT, Nat.reduceMul, pGW_A, pGW_V, pGW_B, pGW_r, pGW_c, pGW_R, pGW_C, pGW_F, pGW_G, pGW_N, pGS_c, pGS_gv, pGS_b, pGS_R, pGS_C, pGS_G, pGS_N, gw_0, gw_1, gw_2, gw_3, gw_4, gw_5, gw_u0, gw_u1, gw_u2, gw_u3, gw_u4, gw_u5]
  rw [s_begin1 25 0 _ _ _ rfl]
  simp (disch := omega) only [ze_24_0, ze_24_1, ze_24_2, ze_24_5, ze_24_6, ze_24_7, ze_24_10, ze_24_11, ze_24_12, ze_24_15, ze_24_16, ze_24_17, ze_24_20, ze_24_21, ze_24_23, ze_24_25, ze_24_28, ze_24_29, ze_24_32, ze_24_33, ze_24_34, ze_24_35, ze_24_36, ze_24_39, ze_24_40, ze_24_41, ze_24_42, ze_24_45, ze_24_48, ze_24_49, ze_24_52, z_gI, z_gR, z_pF, z_aL, z_aS, z_gO, z_k_r, z_push_s, z_push_n, okS_0, okS_I, okS_R, okS_A, List.getElem?_cons_zero, List.getElem?_cons_succ, List.length_cons, List.length_nil, List.set_cons_zero, List.set_cons_succ, true_and, and_true, z_tI, z_tB, pk_mul, nI_add, cI_cl, cI_ix, arr_at, arr_upd, nar_0, nar_1, nar_b, Nat.reduceAdd, Nat.reduceLT, Nat.reduceMul, pGW_A, pGW_V, pGW_B, pGW_r, pGW_c, pGW_R, pGW_C, pGW_F, pGW_G, pGW_N, pGS_c, pGS_gv, pGS_b, pGS_R, pGS_C, pGS_G, pGS_N, gw_0, gw_1, gw_2, gw_3, gw_4, gw_5, gw_u0, gw_u1, gw_u2, gw_u3, gw_u4, gw_u5, s_clear, hd]
  simp only [Nat.zero_le, if_true, pGW_A, pGW_V, pGW_B, pGW_r, pGW_c, pGW_R, pGW_C, pGW_F, pGW_G, pGW_N, pGS_c, pGS_gv, pGS_b, pGS_R, pGS_C, pGS_G, pGS_N]
  refine congrArg (fun z => P (.inr none, (z, q))) (gw_congr _ _ (fun k hk => rfl) (fun k _ => rfl) (fun k _ => rfl) (fun k _ => ?_) (fun k _ => ?_) ⟨rfl, rfl, rfl, rfl, rfl⟩)
  · exact (sS_eq0.mpr (rU_5 k)).symm
  · exact (sS_eq0.mpr (cU_5 k)).symm
end
