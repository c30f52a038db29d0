/-! the law -/
section
variable {g : z_G} {d B : Nat} {P : z_Res → Prop}
/-- gen17.py prints the law's aload with a name of the script alone: this one is the class -/
theorem law_23 {h : z_H} {v0 : Value} {a : Nat} {ls st : List Value} : z_T g d 154 23 (v0 :: .ref a :: ls) st h P = z_T g d 154 24 (v0 :: .ref a :: ls) (.ref a :: st) h P := zt_aloadn zi_154_23 rfl rfl
theorem XI_0 : XI (S0 2 2) 0 (fun _ => 0) (fun _ => S0 2 2) I00 (fun _ _ => 0) :=
  ⟨rfl, GI_S0 (by omega) (by omega) (by omega) (by omega), ⟨fun _ => 0, 0, rfl, rfl⟩, ⟨by omega, rfl, fun _ => (by decide : 0 < 256), fun _ _ => rfl⟩, 0, 0, by omega, by omega, rfl, rfl⟩
theorem law_lp (hd : 70 < d) (hg : g.1 < 2147483648) : ∀ (k i c : Nat) (h : z_H), i + k = 5 → LPT B c h → (∀ h', LPT B (c + 5010 * k) h' → P (.inr (some (.int (nI 1))), h')) → z_T g d 154 13 [.retAddr 99, .ref B, .int (nI g.1), .int (nI i)] [] h P := by
  intro k
  induction k with
  | zero =>
    intro i c h hi hL hP
    have : i = 5 := by omega
    subst this
    have := hP h hL
    rw [ze_154_13]
    by_cases z : 5 < g.1
    · simp (disch := omega) only [ze_154_0, ze_154_3, ze_154_3_i, ze_154_4, ze_154_7, ze_154_7_n, ze_154_8, ze_154_9, ze_154_10, ze_154_11, ze_154_12, ze_154_14, ze_154_15, ze_154_18, ze_154_19, ze_154_20, ze_154_23, ze_154_24, ze_154_25, ze_154_27, ze_154_27_i, ze_154_28, ze_154_29, ze_154_30, ze_154_31, ze_154_32, ze_154_33, ze_154_36, ze_154_39, ze_154_40, ze_154_41, ze_154_44, ze_154_47, ze_154_48, z_k_r, z_push_s, z_push_n, okS_0, okS_I, okS_R, okS_A, List.getElem?_cons_zero, List.getElem?_cons_succ, List.length_cons, List.length_nil, List.set_cons_zero, List.set_cons_succ, true_and, and_true, z_tI, z_tB, pk_mul, nI_add, cI_cl, cI_ix, nar_0, nar_1, nar_b, Nat.reduceAdd, Nat.reduceLT, Nat.reduceMul, cI_lt, cI_eq, ↓reduceIte, if_true, if_false, Nat.lt_irrefl, eq_self, Nat.reduceEqDiff, or_true, true_or, or_false, false_or, not_false_eq_true, not_true_eq_false, ce_5, zb_t, zb_f, z]
      exact this
    · simp (disch := omega) only [ze_154_0, ze_154_3, ze_154_3_i, ze_154_4, ze_154_7, ze_154_7_n, ze_154_8, ze_154_9, ze_154_10, ze_154_11, ze_154_12, ze_154_14, ze_154_15, ze_154_18, ze_154_19, ze_154_20, ze_154_23, ze_154_24, ze_154_25, ze_154_27, ze_154_27_i, ze_154_28, ze_154_29, ze_154_30, ze_154_31, ze_154_32, ze_154_33, ze_154_36, ze_154_39, ze_154_40, ze_154_41, ze_154_44, ze_154_47, ze_154_48, z_k_r, z_push_s, z_push_n, okS_0, okS_I, okS_R, okS_A, List.getElem?_cons_zero, List.getElem?_cons_succ, List.length_cons, List.length_nil, List.set_cons_zero, List.set_cons_succ, true_and, and_true, z_tI, z_tB, pk_mul, nI_add, cI_cl, cI_ix, nar_0, nar_1, nar_b, Nat.reduceAdd, Nat.reduceLT, Nat.reduceMul, cI_lt, cI_eq, ↓reduceIte, if_true, if_false, Nat.lt_irrefl, eq_self, Nat.reduceEqDiff, or_true, true_or, or_false, false_or, not_false_eq_true, not_true_eq_false, ce_5, zb_t, zb_f, z]
      exact this
  | succ k ih =>
    intro i c h hi hL hP
    have hd0 : 0 < d := by omega
    obtain ⟨S, f, N, x, y, tb, rfl, hcb, hN, hx, hy⟩ := hL
    have i5 : i < 5 := by omega
    rw [ze_154_13]
    by_cases z : i < g.1
    · have hix : z_idx (nI i) g.1 = true := cI_ix z hg
      have sA := fun v K => iA_S (F := f) (a := N) (n := 1) (k := 0) (c := fun _ => 0) (v := v) (K := K) (by omega) (by omega)
      simp (disch := first | omega | exact hix) only [ze_154_0, ze_154_3, ze_154_3_i, ze_154_4, ze_154_7, ze_154_7_n, ze_154_8, ze_154_9, ze_154_10, ze_154_11, ze_154_12, ze_154_14, ze_154_15, ze_154_18, ze_154_19, ze_154_20, ze_154_23, ze_154_24, ze_154_25, ze_154_27, ze_154_27_i, ze_154_28, ze_154_29, ze_154_30, ze_154_31, ze_154_32, ze_154_33, ze_154_39, ze_154_40, ze_154_41, ze_154_44, ze_154_47, ze_154_48, law_23, z_k_r, z_push_s, z_push_n, okS_0, okS_I, okS_R, okS_A, List.getElem?_cons_zero, List.getElem?_cons_succ, List.length_cons, List.length_nil, List.set_cons_zero, List.set_cons_succ, true_and, and_true, z_tI, z_tB, pk_mul, nI_add, cI_cl, cI_ix, nar_0, nar_1, nar_b, Nat.reduceAdd, Nat.reduceLT, Nat.reduceMul, cI_lt, cI_eq, ↓reduceIte, if_true, if_false, Nat.lt_irrefl, eq_self, Nat.reduceEqDiff, or_true, true_or, or_false, false_or, not_false_eq_true, not_true_eq_false, ce_5, zb_t, zb_f, z, i5, nA_i]
      rw [show z_up f N (.inl (.int, 1, .inl fun _ => 0)) = z_up f N (inA 1 fun _ => 0) from rfl, sA]
      simp (disch := first | omega | exact hix) only [ze_154_0, ze_154_3, ze_154_3_i, ze_154_4, ze_154_7, ze_154_7_n, ze_154_8, ze_154_9, ze_154_10, ze_154_11, ze_154_12, ze_154_14, ze_154_15, ze_154_18, ze_154_19, ze_154_20, ze_154_23, ze_154_24, ze_154_25, ze_154_27, ze_154_27_i, ze_154_28, ze_154_29, ze_154_30, ze_154_31, ze_154_32, ze_154_33, ze_154_39, ze_154_40, ze_154_41, ze_154_44, ze_154_47, ze_154_48, z_k_r, z_push_s, z_push_n, okS_0, okS_I, okS_R, okS_A, List.getElem?_cons_zero, List.getElem?_cons_succ, List.length_cons, List.length_nil, List.set_cons_zero, List.set_cons_succ, true_and, and_true, z_tI, z_tB, pk_mul, nI_add, cI_cl, cI_ix, nar_0, nar_1, nar_b, Nat.reduceAdd, Nat.reduceLT, Nat.reduceMul, cI_lt, cI_eq, ↓reduceIte, if_true, if_false, Nat.lt_irrefl, eq_self, Nat.reduceEqDiff, or_true, true_or, or_false, false_or, not_false_eq_true, not_true_eq_false, ce_5, zb_t, zb_f, hd0, and_true, true_and]
      refine l_plays (g := g) (d := d - 1) (c := c + 5) (by omega) hN (by omega) (hcb.ag fun y z1 z2 => z_up_ne (by omega)) (z_up_self _ _ _) (by omega) (by omega) (fun h' L' => ?_)
      have go := ih (i + 1) (c + 5 + 5000) h' (by omega) L' (fun h2 L2 => hP h2 (by
        obtain ⟨S, f, N, x, y, tb, e1, e2, e3, e4, e5⟩ := L2
        exact ⟨S, f, N, x, y, tb, e1, e2, e3, Nat.le_trans e4 (by omega), Nat.le_trans e5 (Nat.mul_le_mul_left 60 (by omega))⟩))
      simp (disch := omega) only [ze_154_0, ze_154_3, ze_154_3_i, ze_154_4, ze_154_7, ze_154_7_n, ze_154_8, ze_154_9, ze_154_10, ze_154_11, ze_154_12, ze_154_14, ze_154_15, ze_154_18, ze_154_19, ze_154_20, ze_154_23, ze_154_24, ze_154_25, ze_154_27, ze_154_27_i, ze_154_28, ze_154_29, ze_154_30, ze_154_31, ze_154_32, ze_154_33, ze_154_36, ze_154_39, ze_154_40, ze_154_41, ze_154_44, ze_154_47, ze_154_48, z_k_r, z_push_s, z_push_n, okS_0, okS_I, okS_R, okS_A, List.getElem?_cons_zero, List.getElem?_cons_succ, List.length_cons, List.length_nil, List.set_cons_zero, List.set_cons_succ, true_and, and_true, z_tI, z_tB, pk_mul, nI_add, cI_cl, cI_ix, nar_0, nar_1, nar_b, Nat.reduceAdd, Nat.reduceLT, Nat.reduceMul, cI_lt, cI_eq, ↓reduceIte, if_true, if_false, Nat.lt_irrefl, eq_self, Nat.reduceEqDiff, or_true, true_or, or_false, false_or, not_false_eq_true, not_true_eq_false, ce_5, zb_t, zb_f]
      exact go
    · have := hP _ ⟨S, f, N, x, y, tb, rfl, hcb, hN, by omega, Nat.le_trans hy (Nat.mul_le_mul_left 60 (by omega))⟩
      simp (disch := omega) only [ze_154_0, ze_154_3, ze_154_3_i, ze_154_4, ze_154_7, ze_154_7_n, ze_154_8, ze_154_9, ze_154_10, ze_154_11, ze_154_12, ze_154_14, ze_154_15, ze_154_18, ze_154_19, ze_154_20, ze_154_23, ze_154_24, ze_154_25, ze_154_27, ze_154_27_i, ze_154_28, ze_154_29, ze_154_30, ze_154_31, ze_154_32, ze_154_33, ze_154_36, ze_154_39, ze_154_40, ze_154_41, ze_154_44, ze_154_47, ze_154_48, z_k_r, z_push_s, z_push_n, okS_0, okS_I, okS_R, okS_A, List.getElem?_cons_zero, List.getElem?_cons_succ, List.length_cons, List.length_nil, List.set_cons_zero, List.set_cons_succ, true_and, and_true, z_tI, z_tB, pk_mul, nI_add, cI_cl, cI_ix, nar_0, nar_1, nar_b, Nat.reduceAdd, Nat.reduceLT, Nat.reduceMul, cI_lt, cI_eq, ↓reduceIte, if_true, if_false, Nat.lt_irrefl, eq_self, Nat.reduceEqDiff, or_true, true_or, or_false, false_or, not_false_eq_true, not_true_eq_false, ce_5, zb_t, zb_f, z]
      exact this
theorem law_all {f : Nat → Option z_C} (hd : 80 < d) (hg : g.1 < 2147483648) (hP : ∀ (h' : Nat → Option z_C) (q' : Option Nat × Nat × Nat), q'.2.1 ≤ 30000 → q'.2.2 ≤ 1800000 → P (.inr (some (.int (nI 1))), (h', q'))) : z_Ca g d 154 [.retAddr 99] (f, some B, 0, 0) P := by
  have hd0 : 0 < d := by omega
  obtain ⟨F, hF⟩ : ∃ F, F = z_up f B (.inr (9, [.null, .null, .null, .null, .null, .null, .null, .null, .null, .null, .int 0])) := ⟨_, rfl⟩
  have no : ∀ K : Nat → z_H → Prop, z_nO (f, some B, 0, 0) 9 11 [.null, .null, .null, .null, .null, .null, .null, .null, .null, .null, .int 0] K = K B (F, some (B + 1), 1, 11) := fun K => by rw [hF]; rfl
  have xi := fun P => x9_init (g := g) (d := d - 1) (f := F) (B := B) (x := 1) (y := 11) (P := P) (by omega) (by rw [hF, z_up_self])
  have lp := law_lp (g := g) (d := d) (B := B) (P := P) (by omega) hg 5 0 100 (xw F B (fun _ => S0 2 2) I00 (fun _ _ => 0), some (B + 47), 1 + 46, 11 + 1182) (by omega) ⟨S0 2 2, _, B + 47, 47, 1193, fun _ => 0, rfl, cb_new XI_0, Nat.le_refl _, by omega, by omega⟩ (fun h' L' => by
    obtain ⟨S, f9, N, x, y, tb, rfl, e2, e3, e4, e5⟩ := L'
    exact hP f9 (some N, x, y) (Nat.le_trans e4 (by omega)) (Nat.le_trans e5 (by omega)))
  rw [zn_154]
  simp (disch := omega) only [ze_154_0, ze_154_3, ze_154_3_i, ze_154_4, ze_154_7, ze_154_7_n, ze_154_8, ze_154_9, ze_154_10, ze_154_11, ze_154_12, ze_154_14, ze_154_15, ze_154_18, ze_154_19, ze_154_20, ze_154_23, ze_154_24, ze_154_25, ze_154_27, ze_154_27_i, ze_154_28, ze_154_29, ze_154_30, ze_154_31, ze_154_32, ze_154_33, ze_154_36, ze_154_39, ze_154_40, ze_154_41, ze_154_44, ze_154_47, ze_154_48, z_k_r, z_push_s, z_push_n, okS_0, okS_I, okS_R, okS_A, List.getElem?_cons_zero, List.getElem?_cons_succ, List.length_cons, List.length_nil, List.set_cons_zero, List.set_cons_succ, true_and, and_true, z_tI, z_tB, pk_mul, nI_add, cI_cl, cI_ix, nar_0, nar_1, nar_b, Nat.reduceAdd, Nat.reduceLT, Nat.reduceMul, cI_lt, cI_eq, ↓reduceIte, if_true, if_false, Nat.lt_irrefl, eq_self, Nat.reduceEqDiff, or_true, true_or, or_false, false_or, not_false_eq_true, not_true_eq_false, ce_5, zb_t, zb_f, no, hd0, ↓xi]
  exact lp
end
