/-! a Grid copied, stored; its counts -/
section
variable {g : z_G} {d : Nat} {f : Nat → Option z_C} {q : Option Nat × Nat × Nat} {P : z_Res → Prop} {a : Nat} {S : GS}
theorem HB_6 {f : Nat → Option z_C} {a : Nat} {W : GW} (h : HB f a 6 (gb a W)) : f a = some (gb a W 0) ∧ f (a + 1) = some (gb a W 1) ∧ f (a + 2) = some (gb a W 2) ∧ f (a + 3) = some (gb a W 3) ∧ f (a + 4) = some (gb a W 4) ∧ f (a + 5) = some (gb a W 5) :=
  ⟨h 0 (by omega), h 1 (by omega), h 2 (by omega), h 3 (by omega), h 4 (by omega), h 5 (by omega)⟩
theorem fill_key (F G : Nat → Int32) (i x : Nat) : (if i + 1 ≤ x then G x else upd F i (G i) x) = if i ≤ x then G x else F x := by
  by_cases e : x = i
  · subst e
    rw [upd_at, if_pos (Nat.le_refl _)]
    split <;> rfl
  · rw [upd_ne e]
    by_cases e2 : i ≤ x
    · rw [if_pos (by omega), if_pos e2]
    · rw [if_neg (by omega), if_neg e2]
theorem s_copy1 {a2 : Nat} (h0 : HB f a2 6 (gb a2 S.w)) (ha : a2 + 6 ≤ a ∨ a + 6 ≤ a2) : ∀ (k i : Nat) (W : GW), i + k = 25 → z_T g d 26 34 [.ref a, .ref a2, .int (nI i)] [] (gw f a W, q) P = z_T g d 26 70 [.ref a, .ref a2, .int (nI 25)] [] (gw f a ⟨W.A, fun x => if i ≤ x then S.w.V x else W.V x, fun x => if i ≤ x then S.w.B x else W.B x, W.r, W.c, W.R, W.C, W.F, W.G, W.N⟩, q) P
  | 0, i, W, h => by
    have : i = 25 := by omega
    subst this
    rw [ze_26_34]
    simp (disch := omega) only [ze_26_0, ze_26_1, ze_26_2, ze_26_5, ze_26_8, ze_26_9, ze_26_10, ze_26_13, ze_26_16, ze_26_17, ze_26_18, ze_26_21, ze_26_24, ze_26_25, ze_26_26, ze_26_29, ze_26_32, ze_26_33, ze_26_35, ze_26_37, ze_26_40, ze_26_41, ze_26_44, ze_26_45, ze_26_46, ze_26_49, ze_26_50, ze_26_51, ze_26_52, ze_26_53, ze_26_56, ze_26_57, ze_26_58, ze_26_61, ze_26_62, ze_26_63, ze_26_64, ze_26_67, ze_26_71, ze_26_72, ze_26_75, ze_26_78, z_gI, z_gR, z_pF, z_aL, z_aS, z_gO, z_k_r, z_push_s, z_push_n, okS_0, okS_I, okS_R, okS_A, List.getElem?_cons_zero, List.getElem?_cons_succ, List.length_cons, List.length_nil, List.set_cons_zero, List.set_cons_succ, true_and, and_true, z_tI, z_tB, pk_mul, nI_add, cI_cl, cI_ix, arr_at, arr_upd, nar_0, nar_1, nar_b, Nat.reduceAdd, Nat.reduceLT, Nat.reduceMul, cI_lt, cI_eq, if_true, if_false, Nat.lt_irrefl, eq_self, Nat.reduceEqDiff, or_true, true_or, or_false, not_false_eq_true, not_true_eq_false, ce_5]
    refine congrArg (fun z => z_T g d 26 70 [.ref a, .ref a2, .int (nI 25)] [] (z, q) P) (gw_congr _ _ (fun k hk => rfl) (fun k _ => ?_) (fun k _ => ?_) (fun k _ => rfl) (fun k _ => rfl) ⟨rfl, rfl, rfl, rfl, rfl⟩)
    · exact (if_neg (by omega)).symm
    · exact (if_neg (by omega)).symm
  | k + 1, i, W, h => by
    have hi : i < 25 := by omega
    obtain ⟨c0, c1, c2, c3, c4, c5⟩ := HB_6 h0
    rw [ze_26_34]
    simp (disch := omega) only [ze_26_0, ze_26_1, ze_26_2, ze_26_5, ze_26_8, ze_26_9, ze_26_10, ze_26_13, ze_26_16, ze_26_17, ze_26_18, ze_26_21, ze_26_24, ze_26_25, ze_26_26, ze_26_29, ze_26_32, ze_26_33, ze_26_35, ze_26_37, ze_26_40, ze_26_41, ze_26_44, ze_26_45, ze_26_46, ze_26_49, ze_26_50, ze_26_51, ze_26_52, ze_26_53, ze_26_56, ze_26_57, ze_26_58, ze_26_61, ze_26_62, ze_26_63, ze_26_64, ze_26_67, ze_26_71, ze_26_72, ze_26_75, ze_26_78, z_gI, z_gR, z_pF, z_aL, z_aS, z_gO, z_k_r, z_push_s, z_push_n, okS_0, okS_I, okS_R, okS_A, List.getElem?_cons_zero, List.getElem?_cons_succ, List.length_cons, List.length_nil, List.set_cons_zero, List.set_cons_succ, true_and, and_true, z_tI, z_tB, pk_mul, nI_add, cI_cl, cI_ix, arr_at, arr_upd, nar_0, nar_1, nar_b, Nat.reduceAdd, Nat.reduceLT, Nat.reduceMul, cI_lt, cI_eq, if_true, if_false, Nat.lt_irrefl, eq_self, Nat.reduceEqDiff, or_true, true_or, or_false, not_false_eq_true, not_true_eq_false, ce_5, pGW_A, pGW_V, pGW_B, pGW_r, pGW_c, pGW_R, pGW_C, pGW_F, pGW_G, pGW_N, pGS_c, pGS_gv, pGS_b, pGS_R, pGS_C, pGS_G, pGS_N, gw_0, gw_1, gw_2, gw_3, gw_4, gw_5, gw_u0, gw_u1, gw_u2, gw_u3, gw_u4, gw_u5, gw_ne, c0, c2, c3, gb, hi, gs_A, gs_V, gs_B, gs_r, gs_c, gs_R, gs_C, gs_F, gs_G, gs_N]
    rw [s_copy1 h0 ha k (i + 1) _ (by omega)]
    refine congrArg (fun z => z_T g d 26 70 [.ref a, .ref a2, .int (nI 25)] [] (z, q) P) (gw_congr _ _ (fun k hk => rfl) (fun k _ => ?_) (fun k _ => ?_) (fun k _ => rfl) (fun k _ => rfl) ⟨rfl, rfl, rfl, rfl, rfl⟩)
    · simp only [pGW_A, pGW_V, pGW_B, pGW_r, pGW_c, pGW_R, pGW_C, pGW_F, pGW_G, pGW_N, pGS_c, pGS_gv, pGS_b, pGS_R, pGS_C, pGS_G, pGS_N, gs_A, gs_V, gs_B, gs_r, gs_c, gs_R, gs_C, gs_F, gs_G, gs_N]
      exact fill_key W.V (fun k => zb (S.gv k)) i k
    · simp only [pGW_A, pGW_V, pGW_B, pGW_r, pGW_c, pGW_R, pGW_C, pGW_F, pGW_G, pGW_N, pGS_c, pGS_gv, pGS_b, pGS_R, pGS_C, pGS_G, pGS_N, gs_A, gs_V, gs_B, gs_r, gs_c, gs_R, gs_C, gs_F, gs_G, gs_N]
      exact fill_key W.B (fun k => sS (S.b k)) i k
theorem s_copy {a2 : Nat} (h0 : HB f a2 6 (gb a2 S.w)) (ha : a2 + 6 ≤ a ∨ a + 6 ≤ a2) (hg : GI S) (hd : 1 < d) (W : GW) : z_Ca g d 26 [.ref a, .ref a2] (gw f a W, q) P = P (.inr none, (gw f a S.w, q)) := by
  obtain ⟨c0, c1, c2, c3, c4, c5⟩ := HB_6 h0
  have hR := hg.RC
  have hC := hg.C5
  rw [zn_26]
  simp (disch := omega) only [ze_26_0, ze_26_1, ze_26_2, ze_26_5, ze_26_8, ze_26_9, ze_26_10, ze_26_13, ze_26_16, ze_26_17, ze_26_18, ze_26_21, ze_26_24, ze_26_25, ze_26_26, ze_26_29, ze_26_32, ze_26_33, ze_26_35, ze_26_37, ze_26_40, ze_26_41, ze_26_44, ze_26_45, ze_26_46, ze_26_49, ze_26_50, ze_26_51, ze_26_52, ze_26_53, ze_26_56, ze_26_57, ze_26_58, ze_26_61, ze_26_62, ze_26_63, ze_26_64, ze_26_67, ze_26_70, ze_26_71, ze_26_72, ze_26_75, ze_26_78, z_gI, z_gR, z_pF, z_aL, z_aS, z_gO, z_k_r, z_push_s, z_push_n, okS_0, okS_I, okS_R, okS_A, List.getElem?_cons_zero, List.getElem?_cons_succ, List.length_cons, List.length_nil, List.set_cons_zero, List.set_cons_succ, true_and, and_true, z_tI, z_tB, pk_mul, nI_add, cI_cl, cI_ix, arr_at, arr_upd, nar_0, nar_1, nar_b, Nat.reduceAdd, Nat.reduceLT, Nat.reduceMul, pGW_A, pGW_V, pGW_B, pGW_r, pGW_c, pGW_R, pGW_C, pGW_F, pGW_G, pGW_N, pGS_c, pGS_gv, pGS_b, pGS_R, pGS_C, pGS_G, pGS_N, gw_0, gw_1, gw_2, gw_3, gw_4, gw_5, gw_u0, gw_u1, gw_u2, gw_u3, gw_u4, gw_u5, gw_ne, c0, gb, gs_A, gs_V, gs_B, gs_r, gs_c, gs_R, gs_C, gs_F, gs_G, gs_N]
  rw [s_copy1 h0 ha 25 0 _ rfl]
  simp (disch := omega) only [ze_26_0, ze_26_1, ze_26_2, ze_26_5, ze_26_8, ze_26_9, ze_26_10, ze_26_13, ze_26_16, ze_26_17, ze_26_18, ze_26_21, ze_26_24, ze_26_25, ze_26_26, ze_26_29, ze_26_32, ze_26_33, ze_26_35, ze_26_37, ze_26_40, ze_26_41, ze_26_44, ze_26_45, ze_26_46, ze_26_49, ze_26_50, ze_26_51, ze_26_52, ze_26_53, ze_26_56, ze_26_57, ze_26_58, ze_26_61, ze_26_62, ze_26_63, ze_26_64, ze_26_67, ze_26_70, ze_26_71, ze_26_72, ze_26_75, ze_26_78, z_gI, z_gR, z_pF, z_aL, z_aS, z_gO, z_k_r, z_push_s, z_push_n, okS_0, okS_I, okS_R, okS_A, List.getElem?_cons_zero, List.getElem?_cons_succ, List.length_cons, List.length_nil, List.set_cons_zero, List.set_cons_succ, true_and, and_true, z_tI, z_tB, pk_mul, nI_add, cI_cl, cI_ix, arr_at, arr_upd, nar_0, nar_1, nar_b, Nat.reduceAdd, Nat.reduceLT, Nat.reduceMul, pGW_A, pGW_V, pGW_B, pGW_r, pGW_c, pGW_R, pGW_C, pGW_F, pGW_G, pGW_N, pGS_c, pGS_gv, pGS_b, pGS_R, pGS_C, pGS_G, pGS_N, gw_0, gw_1, gw_2, gw_3, gw_4, gw_5, gw_u0, gw_u1, gw_u2, gw_u3, gw_u4, gw_u5, gw_ne, c0, gb, gs_A, gs_V, gs_B, gs_r, gs_c, gs_R, gs_C, gs_F, gs_G, gs_N, Nat.zero_le, if_true, show 0 < d by omega]
  have := fun (W : GW) (hW : ∀ A r c F, (⟨A, W.V, W.B, r, c, W.R, W.C, F, W.G, W.N⟩ : GW) = ⟨A, S.w.V, S.w.B, r, c, S.w.R, S.w.C, F, S.w.G, S.w.N⟩) P => s_load (g := g) (d := d - 1) (f := f) (q := q) (P := P) (a := a) (S := S) (x := a2 + 1) (t := S.c) W hW (by omega) c1 (by omega) (fun k _ => hg.c5 k) (by omega) hC hg.out
  refine (this (W.A, fun x => zb (S.gv x), fun x => sS (S.b x), W.r, W.c, nI S.R, nI S.C, W.F, nI S.G, nI S.N) (fun A r c F => rfl) _).trans ?_
  simp only [z_gI, z_gR, z_pF, z_aL, z_aS, z_gO, z_k_r, z_push_s, z_push_n, okS_0, okS_I, okS_R, okS_A, List.getElem?_cons_zero, List.getElem?_cons_succ, List.length_cons, List.length_nil, List.set_cons_zero, List.set_cons_succ, true_and, and_true, z_tI, z_tB, pk_mul, nI_add, cI_cl, cI_ix, arr_at, arr_upd, nar_0, nar_1, nar_b, Nat.reduceAdd, Nat.reduceLT, Nat.reduceMul, ze_26_0, ze_26_1, ze_26_2, ze_26_5, ze_26_8, ze_26_9, ze_26_10, ze_26_13, ze_26_16, ze_26_17, ze_26_18, ze_26_21, ze_26_24, ze_26_25, ze_26_26, ze_26_29, ze_26_32, ze_26_33, ze_26_35, ze_26_37, ze_26_40, ze_26_41, ze_26_44, ze_26_45, ze_26_46, ze_26_49, ze_26_50, ze_26_51, ze_26_52, ze_26_53, ze_26_56, ze_26_57, ze_26_58, ze_26_61, ze_26_62, ze_26_63, ze_26_64, ze_26_67, ze_26_70, ze_26_71, ze_26_72, ze_26_75, ze_26_78]
  rfl
theorem s_store1 {x : Nat} (hx : x < a ∨ a + 6 ≤ x) : ∀ (k i : Nat) (t : Nat → Int32), i + k = 25 → z_T g d 28 2 [.ref a, .ref x, .int (nI i)] [] (z_up (gw f a S.w) x (.inl (.int, 25, .inl (arr 25 t))), q) P = P (.inr none, (z_up (gw f a S.w) x (.inl (.int, 25, .inl (arr 25 fun k => if i ≤ k then ce (S.c k) else t k))), q))
  | 0, i, t, h => by
    have : i = 25 := by omega
    subst this
    rw [ze_28_2]
    simp (disch := omega) only [ze_28_0, ze_28_1, ze_28_3, ze_28_5, ze_28_8, ze_28_9, ze_28_10, ze_28_11, ze_28_14, ze_28_15, ze_28_16, ze_28_17, ze_28_20, ze_28_23, z_gI, z_gR, z_pF, z_aL, z_aS, z_gO, z_k_r, z_push_s, z_push_n, okS_0, okS_I, okS_R, okS_A, List.getElem?_cons_zero, List.getElem?_cons_succ, List.length_cons, List.length_nil, List.set_cons_zero, List.set_cons_succ, true_and, and_true, z_tI, z_tB, pk_mul, nI_add, cI_cl, cI_ix, arr_at, arr_upd, nar_0, nar_1, nar_b, Nat.reduceAdd, Nat.reduceLT, Nat.reduceMul, cI_lt, cI_eq, if_true, if_false, Nat.lt_irrefl, eq_self, Nat.reduceEqDiff, or_true, true_or, or_false, not_false_eq_true, not_true_eq_false, ce_5]
    rw [arr_congr (f := t)]
    intro k hk
    exact (if_neg (by omega)).symm
  | k + 1, i, t, h => by
    have hi : i < 25 := by omega
    have n0 : z_up (gw f a S.w) x (.inl (.int, 25, .inl (arr 25 t))) a = _ := (z_up_ne (by omega)).trans (gw_0 f a S.w)
    have n1 : z_up (gw f a S.w) x (.inl (.int, 25, .inl (arr 25 t))) (a + 1) = _ := (z_up_ne (by omega)).trans (gw_1 f a S.w)
    rw [ze_28_2]
    simp (disch := omega) only [ze_28_0, ze_28_1, ze_28_3, ze_28_5, ze_28_8, ze_28_9, ze_28_10, ze_28_11, ze_28_14, ze_28_15, ze_28_16, ze_28_17, ze_28_20, ze_28_23, z_gI, z_gR, z_pF, z_aL, z_aS, z_gO, z_k_r, z_push_s, z_push_n, okS_0, okS_I, okS_R, okS_A, List.getElem?_cons_zero, List.getElem?_cons_succ, List.length_cons, List.length_nil, List.set_cons_zero, List.set_cons_succ, true_and, and_true, z_tI, z_tB, pk_mul, nI_add, cI_cl, cI_ix, arr_at, arr_upd, nar_0, nar_1, nar_b, Nat.reduceAdd, Nat.reduceLT, Nat.reduceMul, cI_lt, cI_eq, if_true, if_false, Nat.lt_irrefl, eq_self, Nat.reduceEqDiff, or_true, true_or, or_false, not_false_eq_true, not_true_eq_false, ce_5, n0, n1, hi, gs_A, gs_V, gs_B, gs_r, gs_c, gs_R, gs_C, gs_F, gs_G, gs_N, z_up_self, z_up_up]
    rw [s_store1 hx k (i + 1) _ (by omega)]
    rw [arr_congr fun k hk => fill_key t (fun k => ce (S.c k)) i k]
theorem s_store {x : Nat} (hx : x < a ∨ a + 6 ≤ x) {t : Nat → Int32} (hf : f x = some (.inl (.int, 25, .inl (arr 25 t)))) : z_Ca g d 28 [.ref a, .ref x] (gw f a S.w, q) P = P (.inr none, (z_up (gw f a S.w) x (.inl (.int, 25, .inl (arr 25 fun k => ce (S.c k)))), q)) := by
  rw [zn_28]
  simp (disch := omega) only [ze_28_0, ze_28_1, ze_28_3, ze_28_5, ze_28_8, ze_28_9, ze_28_10, ze_28_11, ze_28_14, ze_28_15, ze_28_16, ze_28_17, ze_28_20, ze_28_23, z_gI, z_gR, z_pF, z_aL, z_aS, z_gO, z_k_r, z_push_s, z_push_n, okS_0, okS_I, okS_R, okS_A, List.getElem?_cons_zero, List.getElem?_cons_succ, List.length_cons, List.length_nil, List.set_cons_zero, List.set_cons_succ, true_and, and_true, z_tI, z_tB, pk_mul, nI_add, cI_cl, cI_ix, arr_at, arr_upd, nar_0, nar_1, nar_b, Nat.reduceAdd, Nat.reduceLT, Nat.reduceMul]
  have e : gw f a S.w = z_up (gw f a S.w) x (.inl (.int, 25, .inl (arr 25 t))) := by
    funext y
    by_cases e : y = x
    · rw [e, z_up_self, gw_ne _ _ _ hx, hf]
    · rw [z_up_ne e]
  rw [e, s_store1 hx 25 0 t rfl, ← e]
  simp only [Nat.zero_le, if_true]
theorem s_fullRows1 (p : Nat → Bool) (hp : ∀ r, r < S.R → (p r = true ↔ ∀ s, s < 5 → rU S.c r s = decide (s < S.C))) (hd : 0 < d) (hR : S.R ≤ 5) (hC : S.C ≤ 5) : ∀ (k r n : Nat), r + k = S.R → z_T g d 36 4 [.ref a, .int (nI n), .int (nI r)] [] (gw f a S.w, q) P = P (.inr (some (.int (nI (n + ct p r k)))), (gw f a S.w, q))
  | 0, r, n, h => by
    have : r = S.R := by omega
    subst this
    rw [ze_36_4]
    simp (disch := omega) only [ze_36_0, ze_36_1, ze_36_2, ze_36_3, ze_36_5, ze_36_6, ze_36_9, ze_36_12, ze_36_13, ze_36_14, ze_36_17, ze_36_20, ze_36_23, ze_36_26, ze_36_29, ze_36_30, z_gI, z_gR, z_pF, z_aL, z_aS, z_gO, z_k_r, z_push_s, z_push_n, okS_0, okS_I, okS_R, okS_A, List.getElem?_cons_zero, List.getElem?_cons_succ, List.length_cons, List.length_nil, List.set_cons_zero, List.set_cons_succ, true_and, and_true, z_tI, z_tB, pk_mul, nI_add, cI_cl, cI_ix, arr_at, arr_upd, nar_0, nar_1, nar_b, Nat.reduceAdd, Nat.reduceLT, Nat.reduceMul, cI_lt, cI_eq, if_true, if_false, Nat.lt_irrefl, eq_self, Nat.reduceEqDiff, or_true, true_or, or_false, not_false_eq_true, not_true_eq_false, ce_5, pGW_A, pGW_V, pGW_B, pGW_r, pGW_c, pGW_R, pGW_C, pGW_F, pGW_G, pGW_N, pGS_c, pGS_gv, pGS_b, pGS_R, pGS_C, pGS_G, pGS_N, gw_0, gw_1, gw_2, gw_3, gw_4, gw_5, gw_u0, gw_u1, gw_u2, gw_u3, gw_u4, gw_u5, gs_A, gs_V, gs_B, gs_r, gs_c, gs_R, gs_C, gs_F, gs_G, gs_N, ct, Nat.add_zero]
  | k + 1, r, n, h => by
    have hr : r < S.R := by omega
    rw [ze_36_4]
    simp (disch := omega) only [ze_36_0, ze_36_1, ze_36_2, ze_36_3, ze_36_5, ze_36_6, ze_36_9, ze_36_12, ze_36_13, ze_36_14, ze_36_17, ze_36_20, ze_36_23, ze_36_26, ze_36_29, ze_36_30, z_gI, z_gR, z_pF, z_aL, z_aS, z_gO, z_k_r, z_push_s, z_push_n, okS_0, okS_I, okS_R, okS_A, List.getElem?_cons_zero, List.getElem?_cons_succ, List.length_cons, List.length_nil, List.set_cons_zero, List.set_cons_succ, true_and, and_true, z_tI, z_tB, pk_mul, nI_add, cI_cl, cI_ix, arr_at, arr_upd, nar_0, nar_1, nar_b, Nat.reduceAdd, Nat.reduceLT, Nat.reduceMul, cI_lt, cI_eq, if_true, if_false, Nat.lt_irrefl, eq_self, Nat.reduceEqDiff, or_true, true_or, or_false, not_false_eq_true, not_true_eq_false, ce_5, pGW_A, pGW_V, pGW_B, pGW_r, pGW_c, pGW_R, pGW_C, pGW_F, pGW_G, pGW_N, pGS_c, pGS_gv, pGS_b, pGS_R, pGS_C, pGS_G, pGS_N, gw_0, gw_1, gw_2, gw_3, gw_4, gw_5, gw_u0, gw_u1, gw_u2, gw_u3, gw_u4, gw_u5, gs_A, gs_V, gs_B, gs_r, gs_c, gs_R, gs_C, gs_F, gs_G, gs_N, hr, s_fullraw (hp r hr) hC, hd, zb_0]
    cases e : p r
    · simp only [ze_36_0, ze_36_1, ze_36_2, ze_36_3, ze_36_5, ze_36_6, ze_36_9, ze_36_12, ze_36_13, ze_36_14, ze_36_17, ze_36_20, ze_36_23, ze_36_26, ze_36_29, ze_36_30, z_gI, z_gR, z_pF, z_aL, z_aS, z_gO, z_k_r, z_push_s, z_push_n, okS_0, okS_I, okS_R, okS_A, List.getElem?_cons_zero, List.getElem?_cons_succ, List.length_cons, List.length_nil, List.set_cons_zero, List.set_cons_succ, true_and, and_true, z_tI, z_tB, pk_mul, nI_add, cI_cl, cI_ix, arr_at, arr_upd, nar_0, nar_1, nar_b, Nat.reduceAdd, Nat.reduceLT, Nat.reduceMul, if_true]
      rw [s_fullRows1 p hp hd hR hC k (r + 1) n (by omega), ct_s, e, Bool.toNat_false, Nat.zero_add]
    · simp only [ze_36_0, ze_36_1, ze_36_2, ze_36_3, ze_36_5, ze_36_6, ze_36_9, ze_36_12, ze_36_13, ze_36_14, ze_36_17, ze_36_20, ze_36_23, ze_36_26, ze_36_29, ze_36_30, z_gI, z_gR, z_pF, z_aL, z_aS, z_gO, z_k_r, z_push_s, z_push_n, okS_0, okS_I, okS_R, okS_A, List.getElem?_cons_zero, List.getElem?_cons_succ, List.length_cons, List.length_nil, List.set_cons_zero, List.set_cons_succ, true_and, and_true, z_tI, z_tB, pk_mul, nI_add, cI_cl, cI_ix, arr_at, arr_upd, nar_0, nar_1, nar_b, Nat.reduceAdd, Nat.reduceLT, Nat.reduceMul, if_false, Bool.true_eq_false]
      rw [s_fullRows1 p hp hd hR hC k (r + 1) (n + 1) (by omega), ct_s, e, Bool.toNat_true, Nat.add_assoc]
end
