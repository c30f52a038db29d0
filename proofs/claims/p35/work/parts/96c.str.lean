/-! a String out of a StringBuilder, and its characters -/
def stF (w : Nat) : z_C := .inr (11, [.ref w, .int (nI 0), .int (nI 0), .int (nI 0)])
def STR (F : Nat → Option z_C) (s n : Nat) (u : Nat → Nat) : Prop := ∃ w, F s = some (stF w) ∧ F w = some (byA n u)
theorem nar_c : ∀ k, k < 128 → vp_nar .char (nI k) = nI k ∧ (nI k &&& nI 255) = nI k ∧ ((nI k).toUInt32 % 65536).toInt32 = nI k := by decide +kernel
section
variable {g : z_G} {d b v n cap s w : Nat} {F : Nat → Option z_C} {u : Nat → Nat} {P : z_Res → Prop} {q : Option Nat × Nat × Nat}
theorem st_0 (h : F s = some (stF w)) (K : Value → Prop) : z_gR F s 11 0 K = K (.ref w) := by simp only [z_gR, h, stF, List.getElem?_cons_zero, true_and]
theorem st_1 (h : F s = some (stF w)) (K : Int32 → Prop) : z_gI F s 11 1 K = K (nI 0) := by simp only [z_gI, h, stF, List.getElem?_cons_succ, List.getElem?_cons_zero, true_and]
theorem st_O (h : F s = some (stF w)) : z_gO F s 11 := by simp only [z_gO, h, stF]
theorem j_len (h : F s = some (stF w)) (hw : F w = some (byA n u)) (hd : 0 < d) : z_Ca g d 123 [.ref s] (F, q) P = P (.inr (some (.int (nI n))), (F, q)) := by
  have na : vp_nar .byte (nI 0) = nI 0 := by decide +kernel
  have cd : ∀ P : z_Res → Prop, z_Ca g (d - 1) 127 [.ref s] (F, q) P = P (.inr (some (.int (nI 0))), (F, q)) := fun P => by
    rw [zn_127]
    simp (disch := omega) only [ze_127_0, ze_127_3, ze_127_6, ze_127_6_s, ze_127_7, ze_127_7_s, ze_127_10, ze_127_13, ze_127_14, z_k_r, z_push_s, z_push_n, okS_0, okS_I, okS_R, okS_A, List.getElem?_cons_zero, List.getElem?_cons_succ, List.length_cons, List.length_nil, List.set_cons_zero, List.set_cons_succ, true_and, and_true, z_tI, z_tB, pk_mul, nI_add, cI_cl, cI_ix, nar_0, nar_1, nar_b, Nat.reduceAdd, Nat.reduceLT, Nat.reduceMul, cI_lt, cI_eq, ↓reduceIte, if_true, if_false, Nat.lt_irrefl, eq_self, Nat.reduceEqDiff, or_true, true_or, or_false, false_or, not_false_eq_true, not_true_eq_false, ce_5, zb_t, zb_f, na, st_1 h]
  rw [zn_123]
  simp (disch := omega) only [ze_123_0, ze_123_0_s, ze_123_1, ze_123_1_s, ze_123_4, ze_123_4_s, ze_123_5, ze_123_5_s, ze_123_6, ze_123_6_r, ze_123_9, ze_123_10, z_k_r, z_push_s, z_push_n, okS_0, okS_I, okS_R, okS_A, List.getElem?_cons_zero, List.getElem?_cons_succ, List.length_cons, List.length_nil, List.set_cons_zero, List.set_cons_succ, true_and, and_true, z_tI, z_tB, pk_mul, nI_add, cI_cl, cI_ix, nar_0, nar_1, nar_b, Nat.reduceAdd, Nat.reduceLT, Nat.reduceMul, cI_lt, cI_eq, ↓reduceIte, if_true, if_false, Nat.lt_irrefl, eq_self, Nat.reduceEqDiff, or_true, true_or, or_false, false_or, not_false_eq_true, not_true_eq_false, ce_5, zb_t, zb_f, hd, st_0 h, sb_N hw, st_O h, ↓cd, z_kJ_r, sh_0]
theorem j_chAt {i : Nat} (h : F s = some (stF w)) (hw : F w = some (byA n u)) (hd : 0 < d) (hi : i < n) (hn : n ≤ 1000) (hu : u i < 128) : z_Ca g d 124 [.ref s, .int (nI i)] (F, q) P = P (.inr (some (.int (nI (u i)))), (F, q)) := by
  obtain ⟨n1, n2, n3⟩ := nar_c (u i) hu
  have il : ∀ P : z_Res → Prop, z_Ca g (d - 1) 128 [.ref s] (F, q) P = P (.inr (some (.int (nI 1))), (F, q)) := fun P => by
    rw [zn_128]
    simp (disch := omega) only [ze_128_0, ze_128_3, ze_128_6, ze_128_6_s, ze_128_7, ze_128_7_s, ze_128_10, ze_128_13, ze_128_14, ze_128_17, ze_128_18, z_k_r, z_push_s, z_push_n, okS_0, okS_I, okS_R, okS_A, List.getElem?_cons_zero, List.getElem?_cons_succ, List.length_cons, List.length_nil, List.set_cons_zero, List.set_cons_succ, true_and, and_true, z_tI, z_tB, pk_mul, nI_add, cI_cl, cI_ix, nar_0, nar_1, nar_b, Nat.reduceAdd, Nat.reduceLT, Nat.reduceMul, cI_lt, cI_eq, ↓reduceIte, if_true, if_false, Nat.lt_irrefl, eq_self, Nat.reduceEqDiff, or_true, true_or, or_false, false_or, not_false_eq_true, not_true_eq_false, ce_5, zb_t, zb_f, st_1 h]
  have hj : (0 : Int32) ≤ nI i ∧ nI i < nI n := ⟨(cI_rng (by omega)).1, by rw [cI_lt (by omega) (by omega)]; exact hi⟩
  have ca : ∀ P : z_Res → Prop, z_Ca g (d - 1) 135 [.ref w, .int (nI i)] (F, q) P = P (.inr (some (.int (nI (u i)))), (F, q)) := fun P => by
    rw [zn_135]
    simp (disch := first | omega | exact hj | (simp only [okS_I, okS_R, okS_0]; done)) only [ze_135_0, ze_135_1, ze_135_2, ze_135_3, ze_135_6, ze_135_7, ze_135_8, ze_135_9, ze_135_12, ze_135_13, ze_135_14, z_k_r, z_push_s, z_push_n, okS_0, okS_I, okS_R, okS_A, List.getElem?_cons_zero, List.getElem?_cons_succ, List.length_cons, List.length_nil, List.set_cons_zero, List.set_cons_succ, true_and, and_true, z_tI, z_tB, pk_mul, nI_add, cI_cl, cI_ix, nar_0, nar_1, nar_b, Nat.reduceAdd, Nat.reduceLT, Nat.reduceMul, cI_lt, cI_eq, ↓reduceIte, if_true, if_false, Nat.lt_irrefl, eq_self, Nat.reduceEqDiff, or_true, true_or, or_false, false_or, not_false_eq_true, not_true_eq_false, ce_5, zb_t, zb_f, sb_N hw, by_L hw, n1, n2, n3]
  rw [zn_124]
  simp (disch := omega) only [ze_124_0, ze_124_0_s, ze_124_1, ze_124_1_r, ze_124_4, ze_124_7, ze_124_7_s, ze_124_8, ze_124_8_s, ze_124_11, ze_124_12, ze_124_15, ze_124_16, ze_124_16_s, ze_124_17, ze_124_17_s, ze_124_20, ze_124_24, z_k_r, z_push_s, z_push_n, okS_0, okS_I, okS_R, okS_A, List.getElem?_cons_zero, List.getElem?_cons_succ, List.length_cons, List.length_nil, List.set_cons_zero, List.set_cons_succ, true_and, and_true, z_tI, z_tB, pk_mul, nI_add, cI_cl, cI_ix, nar_0, nar_1, nar_b, Nat.reduceAdd, Nat.reduceLT, Nat.reduceMul, cI_lt, cI_eq, ↓reduceIte, if_true, if_false, Nat.lt_irrefl, eq_self, Nat.reduceEqDiff, or_true, true_or, or_false, false_or, not_false_eq_true, not_true_eq_false, ce_5, zb_t, zb_f, hd, st_O h, ↓il, z_kJ_r, st_0 h, ↓ca, n1]
/-- all bytes of a builder's array, cut at their number -/
theorem nC_b {N x y : Nat} (hv : F v = some (byA n u)) (hu : ∀ j, u j < 128) (K : Nat → z_H → Prop) : z_nC (F, some N, x, y) 1 v K = K N (z_up F N (byA n u), some (N + 1), x + 1, y + n) := by
  have h : z_cln (F, some N, x, y) 1 v = some (N, (z_up F N (byA n u), some (N + 1), x + 1, y + n)) := by
    unfold z_cln
    dsimp only
    rw [hv]
    unfold byA
    dsimp only
    rw [if_pos]
    show (decide (FieldType.byte = FieldType.byte) && z_fitB (fun j => nI (u j)) 0 n) = true
    rw [fitB_s hu]
    rfl
  unfold z_nC
  rw [h]
theorem j_cut {N x y : Nat} (hv : F v = some (byA cap u)) (hN : v ≠ N) (hn : n ≤ cap) (hc : cap ≤ 1000) (hu : ∀ j, u j < 128) (hz : ∀ j, n ≤ j → u j = 0) (hd : 2 < d) : z_Ca g d 139 [.ref v, .int (nI 0), .int (nI n)] (F, some N, x, y) P = P (.inr (some (.ref N)), (z_up F N (byA n u), some (N + 1), x + 1, y + n)) := by
  have hd0 : 0 < d := by omega
  have hd1 : 0 < d - 1 := by omega
  rw [zn_139]
  by_cases e : n = cap
  · subst e
    have cs : ∀ q, z_cst (z_up F N (byA n u), q) 1 N = true := fun q => by
      unfold z_cst
      dsimp only
      rw [z_up_self]
      rfl
    simp (disch := omega) only [ze_139_0, ze_139_1, ze_139_4, ze_139_5, ze_139_6, ze_139_7, ze_139_10, ze_139_11, ze_139_12, ze_139_13, ze_139_16, ze_139_17, ze_139_18, ze_139_21, ze_139_24, z_k_r, z_push_s, z_push_n, okS_0, okS_I, okS_R, okS_A, List.getElem?_cons_zero, List.getElem?_cons_succ, List.length_cons, List.length_nil, List.set_cons_zero, List.set_cons_succ, true_and, and_true, z_tI, z_tB, pk_mul, nI_add, cI_cl, cI_ix, nar_0, nar_1, nar_b, Nat.reduceAdd, Nat.reduceLT, Nat.reduceMul, cI_lt, cI_eq, ↓reduceIte, if_true, if_false, Nat.lt_irrefl, eq_self, Nat.reduceEqDiff, or_true, true_or, or_false, false_or, not_false_eq_true, not_true_eq_false, ce_5, zb_t, zb_f, sb_N hv, nC_b hv hu, cs]
  · have hv2 : z_up F N (.inl (.byte, n, .inl fun _ => 0)) v = some (byA cap u) := by rw [z_up_ne hN]; exact hv
    have cp := fun q K => cP_a (q := q) (K := K) hv2 (z_up_self F N (.inl (.byte, n, .inl fun _ => 0))) hN hu (l := n) hn (Nat.le_refl _) hc (by omega) hz
    have n0 : ¬ n < 0 := by omega
    have ck : ∀ P : z_Res → Prop, z_Ca g (d - 1 - 1) 138 [.int (nI 0), .int (nI n)] (F, some N, x, y) P = P (.inr none, (F, some N, x, y)) := fun P => by
      rw [zn_138]
      simp (disch := omega) only [ze_138_0, ze_138_1, ze_138_2, ze_138_8, ze_138_8_i, ze_138_12, ze_138_12_i, ze_138_16, ze_138_26, ze_138_37, z_k_r, z_push_s, z_push_n, okS_0, okS_I, okS_R, okS_A, List.getElem?_cons_zero, List.getElem?_cons_succ, List.length_cons, List.length_nil, List.set_cons_zero, List.set_cons_succ, true_and, and_true, z_tI, z_tB, pk_mul, nI_add, cI_cl, cI_ix, nar_0, nar_1, nar_b, Nat.reduceAdd, Nat.reduceLT, Nat.reduceMul, cI_lt, cI_eq, ↓reduceIte, if_true, if_false, Nat.lt_irrefl, eq_self, Nat.reduceEqDiff, or_true, true_or, or_false, false_or, not_false_eq_true, not_true_eq_false, ce_5, zb_t, zb_f, n0]
    have s1 : nI n - nI 0 = nI n := cI_sub (Nat.zero_le _)
    have s2 : nI cap - nI 0 = nI cap := cI_sub (Nat.zero_le _)
    have mn : (if n < cap then nI n else nI cap) = nI n := if_pos (by omega)
    have hok : ∀ (a b c d : Int32) (v w : Nat), z_okS 8 [.int a, .int b, .int c, .ref v, .int d, .ref w] = true := fun _ _ _ _ _ _ => by simp only [okS_I, okS_R, okS_0]
    have cb : ∀ P : z_Res → Prop, z_Ca g (d - 1) 140 [.ref v, .int (nI 0), .int (nI n)] (F, some N, x, y) P = P (.inr (some (.ref N)), (z_up F N (byA n u), some (N + 1), x + 1, y + n)) := fun P => by
      rw [zn_140]
      simp (disch := first | omega | exact hok _ _ _ _ _ _) only [ze_140_0, ze_140_1, ze_140_2, ze_140_5, ze_140_6, ze_140_7, ze_140_8, ze_140_9, ze_140_10, ze_140_12, ze_140_14, ze_140_15, ze_140_16, ze_140_18, ze_140_19, ze_140_20, ze_140_21, ze_140_22, ze_140_23, ze_140_24, ze_140_27, ze_140_30, ze_140_32, z_k_r, z_push_s, z_push_n, okS_0, okS_I, okS_R, okS_A, List.getElem?_cons_zero, List.getElem?_cons_succ, List.length_cons, List.length_nil, List.set_cons_zero, List.set_cons_succ, true_and, and_true, z_tI, z_tB, pk_mul, nI_add, cI_cl, cI_ix, nar_0, nar_1, nar_b, Nat.reduceAdd, Nat.reduceLT, Nat.reduceMul, cI_lt, cI_eq, ↓reduceIte, if_true, if_false, Nat.lt_irrefl, eq_self, Nat.reduceEqDiff, or_true, true_or, or_false, false_or, not_false_eq_true, not_true_eq_false, ce_5, zb_t, zb_f, hd1, ↓ck, s1, s2, nA_b, sb_N hv2, mn, cp, z_up_up]
    simp (disch := omega) only [ze_139_0, ze_139_1, ze_139_4, ze_139_5, ze_139_6, ze_139_7, ze_139_10, ze_139_11, ze_139_12, ze_139_13, ze_139_16, ze_139_17, ze_139_18, ze_139_21, ze_139_24, z_k_r, z_push_s, z_push_n, okS_0, okS_I, okS_R, okS_A, List.getElem?_cons_zero, List.getElem?_cons_succ, List.length_cons, List.length_nil, List.set_cons_zero, List.set_cons_succ, true_and, and_true, z_tI, z_tB, pk_mul, nI_add, cI_cl, cI_ix, nar_0, nar_1, nar_b, Nat.reduceAdd, Nat.reduceLT, Nat.reduceMul, cI_lt, cI_eq, ↓reduceIte, if_true, if_false, Nat.lt_irrefl, eq_self, Nat.reduceEqDiff, or_true, true_or, or_false, false_or, not_false_eq_true, not_true_eq_false, ce_5, zb_t, zb_f, sb_N hv, e, hd0, ↓cb]
theorem sb_toS {D : Nat → Prop} {N x y : Nat} (h : SBX D F N b n u) (hD : ∀ z, D z → z < N) (hd : 8 < d) (hn : n ≤ 240) : ∃ F', (F' N = some (stF (N + 1)) ∧ F' (N + 1) = some (byA n u)) ∧ (∀ z, z < N → F' z = F z) ∧ ∀ P : z_Res → Prop, z_Ca g d 133 [.ref b] (F, some N, x, y) P = P (.inr (some (.ref N)), (F', some (N + 2), x + 2, y + 4 + n)) := by
  obtain ⟨v, cap, h1, h2, h3, h4, h5, h6, h7, h8, h9, h10, h11, h12⟩ := h
  have hd0 : 0 < d := by omega
  have hd1 : 0 < d - 1 := by omega
  have hd2 : 0 < d - 1 - 1 := by omega
  obtain ⟨F0, hF0⟩ : ∃ F0, F0 = z_up F N (.inr (11, [.null, .int 0, .int 0, .int 0])) := ⟨_, rfl⟩
  have b0 : F0 b = some (sbF v n) := by rw [hF0, z_up_ne (by omega)]; exact h1
  obtain ⟨F1, hF1⟩ : ∃ F1, F1 = z_up F N (.inr (11, [.null, .int (nI 0), .int 0, .int 0])) := ⟨_, rfl⟩
  have b1 : F1 b = some (sbF v n) := by rw [hF1, z_up_ne (by omega)]; exact h1
  have v1 : F1 v = some (byA cap u) := by rw [hF1, z_up_ne (by omega)]; exact h2
  have gv : ∀ (q : Option Nat × Nat × Nat) (P : z_Res → Prop), z_Ca g (d - 1 - 1 - 1) 114 [.ref b] (F0, q) P = P (.inr (some (.ref v)), (F0, q)) := fun q P => by
    rw [zn_114]
    simp (disch := omega) only [ze_114_0, ze_114_1, ze_114_4, z_k_r, z_push_s, z_push_n, okS_0, okS_I, okS_R, okS_A, List.getElem?_cons_zero, List.getElem?_cons_succ, List.length_cons, List.length_nil, List.set_cons_zero, List.set_cons_succ, true_and, and_true, z_tI, z_tB, pk_mul, nI_add, cI_cl, cI_ix, nar_0, nar_1, nar_b, Nat.reduceAdd, Nat.reduceLT, Nat.reduceMul, cI_lt, cI_eq, ↓reduceIte, if_true, if_false, Nat.lt_irrefl, eq_self, Nat.reduceEqDiff, or_true, true_or, or_false, false_or, not_false_eq_true, not_true_eq_false, ce_5, zb_t, zb_f, sb_0 b0]
  have ln := fun q P => sb_len (g := g) (d := d - 1 - 1 - 1) (q := q) (P := P) b0 (by omega)
  have il := fun q P => j_isL (g := g) (d := d - 1 - 1 - 1) (q := q) (P := P) b0
  have p1 : ∀ K : (Nat → Option z_C) → Prop, z_pF F0 N 11 1 (.int (nI 0)) K = K F1 := fun K => by
    rw [hF0]
    simp only [z_pF, z_up_self, List.set_cons_zero, List.set_cons_succ, List.length_cons, List.length_nil, Nat.reduceAdd, Nat.reduceLT, true_and, z_up_up]
    rw [hF1]
  have cu := fun x y P => j_cut (g := g) (d := d - 1 - 1 - 1) (N := N + 1) (x := x) (y := y) (P := P) v1 (by omega) h3 (by omega) h6 h7 (by omega)
  have p0 : ∀ K : (Nat → Option z_C) → Prop, z_pF (z_up F1 (N + 1) (byA n u)) N 11 0 (.ref (N + 1)) K = K (z_up (z_up F1 (N + 1) (byA n u)) N (stF (N + 1))) := fun K => by
    have : z_up F1 (N + 1) (byA n u) N = some (.inr (11, [.null, .int (nI 0), .int 0, .int 0])) := by rw [z_up_ne (by omega), hF1, z_up_self]
    simp only [z_pF, this, List.set_cons_zero, List.set_cons_succ, List.length_cons, List.length_nil, Nat.reduceAdd, Nat.reduceLT, true_and]
    rfl
  refine ⟨z_up (z_up F1 (N + 1) (byA n u)) N (stF (N + 1)), ⟨z_up_self _ _ _, by rw [z_up_ne (by omega)]; exact z_up_self _ _ _⟩, fun z hz => by rw [z_up_ne (by omega), z_up_ne (by omega), hF1, z_up_ne (by omega)], fun P => ?_⟩
  have i2 : ∀ (x y : Nat) (P : z_Res → Prop), z_Ca g (d - 1 - 1) 126 [.ref N, .ref b, .null] (F0, some (N + 1), x, y) P = P (.inr none, (z_up (z_up F1 (N + 1) (byA n u)) N (stF (N + 1)), some (N + 1 + 1), x + 1, y + n)) := fun x y P => by
    rw [zn_126]
    simp (disch := omega) only [ze_126_0, ze_126_0_s, ze_126_1, ze_126_4, ze_126_5, ze_126_8, ze_126_9, ze_126_10, ze_126_13, ze_126_15, ze_126_16, ze_126_19, ze_126_22, ze_126_22_s, ze_126_23, ze_126_24, ze_126_27, ze_126_27_s, ze_126_28, ze_126_29, ze_126_30, ze_126_32, ze_126_35, ze_126_38, ze_126_41, ze_126_44, ze_126_47, ze_126_48, ze_126_51, ze_126_54, ze_126_54_s, ze_126_55, ze_126_56, ze_126_57, ze_126_62, ze_126_65, ze_126_65_s, ze_126_66, ze_126_66_s, ze_126_67, ze_126_67_s, ze_126_70, ze_126_75, ze_126_78, ze_126_79, ze_126_79_s, ze_126_80, ze_126_81, ze_126_84, ze_126_84_s, ze_126_85, ze_126_86, ze_126_87, ze_126_89, ze_126_90, ze_126_91, ze_126_94, ze_126_97, z_k_r, z_push_s, z_push_n, okS_0, okS_I, okS_R, okS_A, List.getElem?_cons_zero, List.getElem?_cons_succ, List.length_cons, List.length_nil, List.set_cons_zero, List.set_cons_succ, true_and, and_true, z_tI, z_tB, pk_mul, nI_add, cI_cl, cI_ix, nar_0, nar_1, nar_b, Nat.reduceAdd, Nat.reduceLT, Nat.reduceMul, cI_lt, cI_eq, ↓reduceIte, if_true, if_false, Nat.lt_irrefl, eq_self, Nat.reduceEqDiff, or_true, true_or, or_false, false_or, not_false_eq_true, not_true_eq_false, ce_5, zb_t, zb_f, sb_O b0, hd2, ↓gv, z_kJ_r, ↓ln, ↓il, p1, ↓cu, p0]
  have i1 : ∀ (x y : Nat) (P : z_Res → Prop), z_Ca g (d - 1) 122 [.ref N, .ref b] (F0, some (N + 1), x, y) P = P (.inr none, (z_up (z_up F1 (N + 1) (byA n u)) N (stF (N + 1)), some (N + 1 + 1), x + 1, y + n)) := fun x y P => by
    rw [zn_122]
    simp (disch := omega) only [ze_122_0, ze_122_0_s, ze_122_1, ze_122_2, ze_122_3, ze_122_6, z_k_r, z_push_s, z_push_n, okS_0, okS_I, okS_R, okS_A, List.getElem?_cons_zero, List.getElem?_cons_succ, List.length_cons, List.length_nil, List.set_cons_zero, List.set_cons_succ, true_and, and_true, z_tI, z_tB, pk_mul, nI_add, cI_cl, cI_ix, nar_0, nar_1, nar_b, Nat.reduceAdd, Nat.reduceLT, Nat.reduceMul, cI_lt, cI_eq, ↓reduceIte, if_true, if_false, Nat.lt_irrefl, eq_self, Nat.reduceEqDiff, or_true, true_or, or_false, false_or, not_false_eq_true, not_true_eq_false, ce_5, zb_t, zb_f, hd1, ↓i2, z_kJ_r]
  have no : ∀ K : Nat → z_H → Prop, z_nO (F, some N, x, y) 11 4 [.null, .int 0, .int 0, .int 0] K = K N (F0, some (N + 1), x + 1, y + 4) := fun K => by rw [hF0]; rfl
  rw [zn_133]
  simp (disch := omega) only [ze_133_0, ze_133_3, ze_133_3_i, ze_133_4, ze_133_5, ze_133_8, z_k_r, z_push_s, z_push_n, okS_0, okS_I, okS_R, okS_A, List.getElem?_cons_zero, List.getElem?_cons_succ, List.length_cons, List.length_nil, List.set_cons_zero, List.set_cons_succ, true_and, and_true, z_tI, z_tB, pk_mul, nI_add, cI_cl, cI_ix, nar_0, nar_1, nar_b, Nat.reduceAdd, Nat.reduceLT, Nat.reduceMul, cI_lt, cI_eq, ↓reduceIte, if_true, if_false, Nat.lt_irrefl, eq_self, Nat.reduceEqDiff, or_true, true_or, or_false, false_or, not_false_eq_true, not_true_eq_false, ce_5, zb_t, zb_f, no, hd0, ↓i1, z_kJ_r]
end
