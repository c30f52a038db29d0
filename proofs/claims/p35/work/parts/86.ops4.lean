/-! completions and transversals -/
section
variable {g : z_G} {d : Nat} {f : Nat → Option z_C} {fr : Option Int32 → (Nat → GS) → (Nat → Int32) → (Nat → Nat → Int32) → Nat → Option z_C} {q : Option Nat × Nat × Nat} {P : z_Res → Prop} {B m : Nat} {G G' : Nat → GS} {I I' : Nat → Int32} {A A' : Nat → Nat → Int32} {J J' : Nat → Int32} {K K' : Nat → Nat → Int32} {S : GS} {cm mm : Nat} {hs : List (String × Nat)} {bo : Bool} {as : List Value}
theorem upd_id (i : Nat) : upd I i (I i) = I := funext fun k => by
  unfold upd
  by_cases e : k = i
  · rw [if_pos e, e]
  · rw [if_neg e]
theorem xk (h : iWK I A) : ∃ ol n, xw f B G I A = cw (xw f B G I A) (B + 17) (B + 1) (G 18) ol n := by
  obtain ⟨ol, n, h1, h2⟩ := h
  refine ⟨ol, n, ?_⟩
  rw [xcw, ← h1, ← h2, uG_id, upd_id, uA_id]
theorem cSM.k (T : GS) (ol : Nat → Nat) (n : Nat) : cSM G (uG G 18 T) I (upd I 8 (nI n)) A (uA A 24 fun i => nI (ol i)) :=
  ⟨uG_n _ (by omega), upd_ne (by omega), upd_ne (by omega), upd_ne (by omega), upd_ne (by omega), ⟨ol, n, upd_at _ _ _, uA_s _ _ _⟩, uA_n _ _ (by omega), fun i hi => uA_n _ _ (by omega), uA_n _ _ (by omega), uA_n _ _ (by omega), uA_n _ _ (by omega)⟩
theorem mSM.c (kp : Bool) (F : Option (Nat → Nat)) (x : Int32) : mSM J (upd J 0 x) K (cmA kp F K) := by
  cases kp
  · exact mSM.z x
  · cases F with
    | none => exact mSM.z x
    | some F => exact ⟨upd_ne (by omega), upd_ne (by omega), upd_ne (by omega), upd_ne (by omega), upd_ne (by omega), upd_ne (by omega), rfl, rfl, fun _ _ => rfl, rfl, rfl, rfl, rfl⟩
/-- a count of transversals of the class -/
theorem x_tr (hg : GI (G 1)) (hd : 9 < d) (FR FC : Int32) : z_Ca g d 61 [.ref (B + 25), .int FR, .int FC] (xw f B G I A, q) P = P (.inr (some (.int (nI ((G 1).ac (fxc FR FC) (G 1).R 0 noB noB)))), (xw f B G (upd (upd I 9 FR) 10 FC) A, q)) := by
  have hC := hg.C5
  have hR := hg.RC
  have hd0 : 0 < d := by omega
  have hT : gw (xw f B G (upd (upd I 9 FR) 10 FC) A) (B + 1) (G 1).w (B + 25) = some (.inr (8, [.ref (B + 1), .ref (B + 26), .int FR, .int FC])) := by
    rw [xj_1, xw_25, upd_at, upd_ne (by omega), upd_at]
  have k := fun P => t_cnt (g := g) (q := q) hT hg (G 1).R (d - 1) 0 noB noB P (Nat.zero_add _) (by omega)
  rw [xj_1, show sS noB = nI 0 from rfl] at k
  rw [zn_61]
  simp (disch := omega) only [ze_61_0, ze_61_1, ze_61_2, ze_61_5, ze_61_6, ze_61_7, ze_61_10, ze_61_11, ze_61_12, ze_61_13, ze_61_14, ze_61_17, z_k_r, z_push_s, z_push_n, okS_0, okS_I, okS_R, okS_A, List.getElem?_cons_zero, List.getElem?_cons_succ, List.length_cons, List.length_nil, List.set_cons_zero, List.set_cons_succ, true_and, and_true, z_tI, z_tB, pk_mul, nI_add, cI_cl, cI_ix, nar_0, nar_1, nar_b, Nat.reduceAdd, Nat.reduceLT, Nat.reduceMul, ↓xr_0_0_q, xr_0_0, ↓xr_0_1_q, xr_0_1, ↓xr_0_2_q, xr_0_2, ↓xr_0_3_q, xr_0_3, ↓xr_0_4_q, xr_0_4, ↓xr_0_5_q, xr_0_5, ↓xr_0_6_q, xr_0_6, ↓xr_0_7_q, xr_0_7, ↓xr_0_8_q, xr_0_8, ↓xr_0_9_q, xr_0_9, ↓xg_14_q, xg_14, ↓xp_14_q, xp_14, ↓xr_7_0_q, xr_7_0, ↓xg_0_q, xg_0, ↓xp_0_q, xp_0, ↓xg_1_q, xg_1, ↓xp_1_q, xp_1, ↓xg_2_q, xg_2, ↓xp_2_q, xp_2, ↓xg_3_q, xg_3, ↓xp_3_q, xp_3, ↓xg_4_q, xg_4, ↓xp_4_q, xp_4, ↓xg_5_q, xg_5, ↓xp_5_q, xp_5, ↓xr_9_0_q, xr_9_0, ↓xr_9_1_q, xr_9_1, ↓xg_6_q, xg_6, ↓xp_6_q, xp_6, ↓xg_7_q, xg_7, ↓xp_7_q, xp_7, ↓xr_16_0_q, xr_16_0, ↓xr_17_0_q, xr_17_0, ↓xr_17_1_q, xr_17_1, ↓xr_17_2_q, xr_17_2, ↓xg_8_q, xg_8, ↓xp_8_q, xp_8, ↓xr_25_0_q, xr_25_0, ↓xr_25_1_q, xr_25_1, ↓xg_9_q, xg_9, ↓xp_9_q, xp_9, ↓xg_10_q, xg_10, ↓xp_10_q, xp_10, ↓xr_27_0_q, xr_27_0, ↓xr_27_1_q, xr_27_1, ↓xg_11_q, xg_11, ↓xp_11_q, xp_11, ↓xr_29_0_q, xr_29_0, ↓xg_12_q, xg_12, ↓xp_12_q, xp_12, ↓xg_13_q, xg_13, ↓xp_13_q, xp_13, ↓xr_41_0_q, xr_41_0, ↓xr_41_1_q, xr_41_1, ↓xL_8_q, xL_8, ↓xS_8_q, xS_8, ↓xL_24_q, xL_24, ↓xS_24_q, xS_24, ↓xL_26_q, xL_26, ↓xS_26_q, xS_26, ↓xL_28_q, xL_28, ↓xS_28_q, xS_28, ↓xL_31_q, xL_31, ↓xS_31_q, xS_31, ↓xL_32_q, xL_32, ↓xS_32_q, xS_32, ↓xL_33_q, xL_33, ↓xS_33_q, xS_33, ↓xL_34_q, xL_34, ↓xS_34_q, xS_34, ↓xL_35_q, xL_35, ↓xS_35_q, xS_35, ↓xL_36_q, xL_36, ↓xS_36_q, xS_36, ↓xL_37_q, xL_37, ↓xS_37_q, xS_37, ↓xL_38_q, xL_38, ↓xS_38_q, xS_38, ↓xL_39_q, xL_39, ↓xS_39_q, xS_39, ↓xL_40_q, xL_40, ↓xS_40_q, xS_40, ↓xL_43_q, xL_43, ↓xS_43_q, xS_43, ↓xL_44_q, xL_44, ↓xS_44_q, xS_44, ↓xL_45_q, xL_45, ↓xS_45_q, xS_45, ↓xL_46_q, xL_46, ↓xS_46_q, xS_46, ↓xq_30_q, xq_30, ↓xq_42_q, xq_42, ↓xr_1_0_q, xr_1_0, ↓xr_1_1_q, xr_1_1, ↓xr_1_2_q, xr_1_2, ↓xr_1_3_q, xr_1_3, ↓xr_1_4_q, xr_1_4, ↓xh_1_0_q, xh_1_0, ↓xh_1_1_q, xh_1_1, ↓xh_1_2_q, xh_1_2, ↓xh_1_3_q, xh_1_3, ↓xh_1_4_q, xh_1_4, ↓xL_2_q, xL_2, ↓xL_3_q, xL_3, ↓xL_4_q, xL_4, ↓xL_5_q, xL_5, ↓xL_6_q, xL_6, ↓xr_10_0_q, xr_10_0, ↓xr_10_1_q, xr_10_1, ↓xr_10_2_q, xr_10_2, ↓xr_10_3_q, xr_10_3, ↓xr_10_4_q, xr_10_4, ↓xh_10_0_q, xh_10_0, ↓xh_10_1_q, xh_10_1, ↓xh_10_2_q, xh_10_2, ↓xh_10_3_q, xh_10_3, ↓xh_10_4_q, xh_10_4, ↓xL_11_q, xL_11, ↓xL_12_q, xL_12, ↓xL_13_q, xL_13, ↓xL_14_q, xL_14, ↓xL_15_q, xL_15, ↓xr_18_0_q, xr_18_0, ↓xr_18_1_q, xr_18_1, ↓xr_18_2_q, xr_18_2, ↓xr_18_3_q, xr_18_3, ↓xr_18_4_q, xr_18_4, ↓xh_18_0_q, xh_18_0, ↓xh_18_1_q, xh_18_1, ↓xh_18_2_q, xh_18_2, ↓xh_18_3_q, xh_18_3, ↓xh_18_4_q, xh_18_4, ↓xL_19_q, xL_19, ↓xL_20_q, xL_20, ↓xL_21_q, xL_21, ↓xL_22_q, xL_22, ↓xL_23_q, xL_23, xo_0, xo_7, xo_9, xo_16, xo_17, xo_25, xo_27, xo_29, xo_41, xo_1, xo_10, xo_18, uA_s, uA_n, uG_s, uG_n, ne_eq, Nat.reduceEqDiff, not_false_eq_true, cI_lt, cI_eq, ↓reduceIte, if_true, if_false, Nat.lt_irrefl, eq_self, Nat.reduceEqDiff, or_true, true_or, or_false, false_or, not_false_eq_true, not_true_eq_false, ce_5, zb_t, zb_f, hd0, ↓k]
theorem cSM.t (h : iWK I A) (x y : Int32) : cSM G G I (upd (upd I 9 x) 10 y) A A := by
  obtain ⟨ol, n, h1, h2⟩ := h
  refine ⟨rfl, ?_, ?_, ?_, ?_, ⟨ol, n, ?_, h2⟩, rfl, fun _ _ => rfl, rfl, rfl, rfl⟩
  all_goals rw [upd_ne (by omega), upd_ne (by omega)]
  exact h1
end
