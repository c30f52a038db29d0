/-! a StringBuilder: digits, literals; a String out of it -/
theorem dg_1 : ∀ c, c < 10 → ((-10 : Int32) < -(nI c)) = True := fun c hc => eq_true ((by decide +kernel : ∀ c, c < 10 → (-10 : Int32) < -(nI c)) c hc)
theorem dg_2 : ∀ c, c < 10 → ((-100 : Int32) < -(nI c)) = True := fun c hc => eq_true ((by decide +kernel : ∀ c, c < 10 → (-100 : Int32) < -(nI c)) c hc)
theorem dg_3 : ∀ c, c < 10 → (-(nI c) < (-9 : Int32)) = False := fun c hc => eq_false ((by decide +kernel : ∀ c, c < 10 → ¬ (-(nI c) < (-9 : Int32))) c hc)
theorem dg_n (x : Int32) : - -x = x := Int32.neg_neg
def lb (k j : Nat) : Nat := ((z_lit k).getD j 0).toNatClampNeg
theorem lb_a : ∀ k, k < 6 → ∀ j, j < 10 → (z_lit k).getD j 0 = nI (lb k j) ∧ lb k j < 128 := by decide +kernel
theorem lb_n : ∀ k, k < 6 → (z_lit k).length ≤ 10 := by decide +kernel
theorem lb_e {k : Nat} (hk : k < 6) (j : Nat) : (z_lit k).getD j 0 = nI (lb k j) ∧ lb k j < 128 := by
  by_cases h : j < 10
  · exact lb_a k hk j h
  · have : (z_lit k).getD j 0 = 0 := by
      have := lb_n k hk
      rw [List.getD_eq_getElem?_getD, List.getElem?_eq_none (by omega)]
      rfl
    unfold lb
    rw [this]
    exact ⟨rfl, by decide⟩
def lu (k n : Nat) (u : Nat → Nat) : Nat → Nat := fun j => if n ≤ j ∧ j < n + (z_lit k).length then lb k (j - n) else u j
section
variable {g : z_G} {d b v n cap : Nat} {F : Nat → Option z_C} {u : Nat → Nat} {P : z_Res → Prop} {q : Option Nat × Nat × Nat}
theorem j_size {c : Nat} (hc : c < 10) : z_Ca g d 119 [.int (nI c)] (F, q) P = P (.inr (some (.int (nI 1))), (F, q)) := by
  have a := dg_1 c hc
  have n0 : ¬ c < 0 := by omega
  rw [zn_119]
  simp (disch := omega) only [ze_119_0, ze_119_1, ze_119_2, ze_119_3, ze_119_6, ze_119_7, ze_119_8, ze_119_9, ze_119_10, ze_119_11, ze_119_13, ze_119_14, ze_119_15, ze_119_17, ze_119_19, ze_119_22, ze_119_23, ze_119_24, ze_119_27, ze_119_28, ze_119_29, ze_119_30, ze_119_31, ze_119_33, ze_119_34, ze_119_35, ze_119_36, ze_119_39, ze_119_42, ze_119_44, ze_119_45, ze_119_46, z_k_r, z_push_s, z_push_n, okS_0, okS_I, okS_R, okS_A, List.getElem?_cons_zero, List.getElem?_cons_succ, List.length_cons, List.length_nil, List.set_cons_zero, List.set_cons_succ, true_and, and_true, z_tI, z_tB, pk_mul, nI_add, cI_cl, cI_ix, nar_0, nar_1, nar_b, Nat.reduceAdd, Nat.reduceLT, Nat.reduceMul, cI_lt, cI_eq, ↓reduceIte, if_true, if_false, Nat.lt_irrefl, eq_self, Nat.reduceEqDiff, or_true, true_or, or_false, false_or, not_false_eq_true, not_true_eq_false, ce_5, zb_t, zb_f, n0]
  rw [ze_119_16]
  simp (disch := omega) only [ze_119_0, ze_119_1, ze_119_2, ze_119_3, ze_119_6, ze_119_7, ze_119_8, ze_119_9, ze_119_10, ze_119_11, ze_119_13, ze_119_14, ze_119_15, ze_119_17, ze_119_19, ze_119_22, ze_119_23, ze_119_24, ze_119_27, ze_119_28, ze_119_29, ze_119_30, ze_119_31, ze_119_33, ze_119_34, ze_119_35, ze_119_36, ze_119_39, ze_119_42, ze_119_44, ze_119_45, ze_119_46, z_k_r, z_push_s, z_push_n, okS_0, okS_I, okS_R, okS_A, List.getElem?_cons_zero, List.getElem?_cons_succ, List.length_cons, List.length_nil, List.set_cons_zero, List.set_cons_succ, true_and, and_true, z_tI, z_tB, pk_mul, nI_add, cI_cl, cI_ix, nar_0, nar_1, nar_b, Nat.reduceAdd, Nat.reduceLT, Nat.reduceMul, cI_lt, cI_eq, ↓reduceIte, if_true, if_false, Nat.lt_irrefl, eq_self, Nat.reduceEqDiff, or_true, true_or, or_false, false_or, not_false_eq_true, not_true_eq_false, ce_5, zb_t, zb_f, a]
theorem j_chars {c k : Nat} (hc : c < 10) (hv : F v = some (byA cap u)) (hk : k < cap) (hcap : cap ≤ 1000) : z_Ca g d 118 [.int (nI c), .int (nI (k + 1)), .ref v] (F, q) P = P (.inr (some (.int (nI k))), (z_up F v (byA cap (nu u k (48 + c))), q)) := by
  have a := dg_2 c hc
  have b := dg_3 c hc
  have n0 : ¬ c < 0 := by omega
  have hx : z_idx (nI c) 10 = true := cI_ix hc (by omega)
  rw [zn_118]
  simp (disch := first | omega | exact hx) only [ze_118_0, ze_118_1, ze_118_3, ze_118_4, ze_118_7, ze_118_8, ze_118_11, ze_118_12, ze_118_14, ze_118_16, ze_118_19, ze_118_20, ze_118_21, ze_118_23, ze_118_25, ze_118_28, ze_118_29, ze_118_31, ze_118_32, ze_118_33, ze_118_34, ze_118_36, ze_118_37, ze_118_38, ze_118_39, ze_118_41, ze_118_42, ze_118_43, ze_118_44, ze_118_47, ze_118_49, ze_118_52, ze_118_54, ze_118_54_s, ze_118_55, ze_118_56, ze_118_57, ze_118_60, ze_118_65, ze_118_67, ze_118_67_s, ze_118_68, ze_118_69, ze_118_72, ze_118_73, ze_118_76, ze_118_78, ze_118_81, ze_118_82, ze_118_83, ze_118_83_s, ze_118_84, ze_118_85, ze_118_86, ze_118_88, ze_118_91, ze_118_92, ze_118_95, ze_118_100, ze_118_101, ze_118_102, ze_118_102_s, ze_118_103, ze_118_104, ze_118_106, ze_118_109, ze_118_110, ze_118_113, ze_118_115, ze_118_117, ze_118_118, ze_118_120, z_k_r, z_push_s, z_push_n, okS_0, okS_I, okS_R, okS_A, List.getElem?_cons_zero, List.getElem?_cons_succ, List.length_cons, List.length_nil, List.set_cons_zero, List.set_cons_succ, true_and, and_true, z_tI, z_tB, pk_mul, nI_add, cI_cl, cI_ix, nar_0, nar_1, nar_b, Nat.reduceAdd, Nat.reduceLT, Nat.reduceMul, cI_lt, cI_eq, ↓reduceIte, if_true, if_false, Nat.lt_irrefl, eq_self, Nat.reduceEqDiff, or_true, true_or, or_false, false_or, not_false_eq_true, not_true_eq_false, ce_5, zb_t, zb_f, n0, dg_n]
  rw [ze_118_22]
  simp (disch := first | omega | exact hx) only [ze_118_0, ze_118_1, ze_118_3, ze_118_4, ze_118_7, ze_118_8, ze_118_11, ze_118_12, ze_118_14, ze_118_16, ze_118_19, ze_118_20, ze_118_21, ze_118_23, ze_118_25, ze_118_28, ze_118_29, ze_118_31, ze_118_32, ze_118_33, ze_118_34, ze_118_36, ze_118_37, ze_118_38, ze_118_39, ze_118_41, ze_118_42, ze_118_43, ze_118_44, ze_118_47, ze_118_49, ze_118_52, ze_118_54, ze_118_54_s, ze_118_55, ze_118_56, ze_118_57, ze_118_60, ze_118_65, ze_118_67, ze_118_67_s, ze_118_68, ze_118_69, ze_118_72, ze_118_73, ze_118_76, ze_118_78, ze_118_81, ze_118_82, ze_118_83, ze_118_83_s, ze_118_84, ze_118_85, ze_118_86, ze_118_88, ze_118_91, ze_118_92, ze_118_95, ze_118_100, ze_118_101, ze_118_102, ze_118_102_s, ze_118_103, ze_118_104, ze_118_106, ze_118_109, ze_118_110, ze_118_113, ze_118_115, ze_118_117, ze_118_118, ze_118_120, z_k_r, z_push_s, z_push_n, okS_0, okS_I, okS_R, okS_A, List.getElem?_cons_zero, List.getElem?_cons_succ, List.length_cons, List.length_nil, List.set_cons_zero, List.set_cons_succ, true_and, and_true, z_tI, z_tB, pk_mul, nI_add, cI_cl, cI_ix, nar_0, nar_1, nar_b, Nat.reduceAdd, Nat.reduceLT, Nat.reduceMul, cI_lt, cI_eq, ↓reduceIte, if_true, if_false, Nat.lt_irrefl, eq_self, Nat.reduceEqDiff, or_true, true_or, or_false, false_or, not_false_eq_true, not_true_eq_false, ce_5, zb_t, zb_f, a, b, dg_n, cI_m1, cI_cl, by_S hv]
theorem sb_dig {D : Nat → Prop} {N x y c : Nat} (h : SBX D F N b n u) (hD : ∀ z, D z → z < N) (hd : 5 < d) (hn : n < 240) (hc : c < 10) : ∃ F' N' x' y', SBX D F' N' b (n + 1) (nu u n (48 + c)) ∧ (∀ z, D z → F' z = F z) ∧ N ≤ N' ∧ x' ≤ x + 1 ∧ y' ≤ y + 500 ∧ ∀ P : z_Res → Prop, z_Ca g d 132 [.ref b, .int (nI c)] (F, some N, x, y) P = P (.inr (some (.ref b)), (F', some N', x', y')) := by
  obtain ⟨v, cap, h⟩ := h
  obtain ⟨F1, N1, x1, y1, v1, cap1, e1, e2, e3, e4, e5, e6, e7⟩ := j_ens (g := g) (d := d - 1 - 1) (x := x) (y := y) (m := n + 1) h hD (by omega) (by omega)
  obtain ⟨p1, p2⟩ := e1.put (c := 48 + c) (by omega) (by omega)
  obtain ⟨k1, k2, -, -, k5, -⟩ := e1
  have k10 : v1 ≠ b := by
    intro w
    subst w
    rw [k1] at k2
    cases k2
  have hd0 : 0 < d := by omega
  have hd1 : 0 < d - 1 := by omega
  have hO := sb_O h.1
  have h1 := h.1
  have il := fun P => j_isL (g := g) (d := d - 1 - 1) (q := (some N1, x1, y1)) (P := P) k1
  have sz := fun q P => j_size (g := g) (d := d - 1 - 1) (F := F) (q := q) (P := P) hc
  have ch := fun q P => j_chars (g := g) (d := d - 1 - 1) (q := q) (P := P) hc k2 (k := n) (by omega) (by omega)
  have b2 : z_up F1 v1 (byA cap1 (nu u n (48 + c))) b = some (sbF v1 n) := by rw [z_up_ne (fun e => k10 e.symm)]; exact k1
  have cm : z_up (z_up F1 v1 (byA cap1 (nu u n (48 + c)))) b (sbF v1 (n + 1)) = z_up (z_up F1 b (sbF v1 (n + 1))) v1 (byA cap1 (nu u n (48 + c))) := z_up_comm _ _ _ k10
  refine ⟨_, N1, x1, y1, p1, fun z hz => by rw [p2 z hz, e3 z hz], e4, e5, e6, fun P => ?_⟩
  have in1 : ∀ P : z_Res → Prop, z_Ca g (d - 1) 113 [.ref b, .int (nI c)] (F, some N, x, y) P = P (.inr (some (.ref b)), (z_up (z_up F1 b (sbF v1 (n + 1))) v1 (byA cap1 (nu u n (48 + c))), some N1, x1, y1)) := fun P => by
    rw [zn_113]
    simp (disch := omega) only [ze_113_0, ze_113_1, ze_113_4, ze_113_5, ze_113_6, ze_113_7, ze_113_10, ze_113_11, ze_113_12, ze_113_13, ze_113_14, ze_113_17, ze_113_18, ze_113_21, ze_113_24, ze_113_25, ze_113_26, ze_113_27, ze_113_30, ze_113_33_i, ze_113_33, ze_113_34, ze_113_37, ze_113_38, ze_113_39, ze_113_40, ze_113_41, ze_113_47_i, ze_113_47, ze_113_48, ze_113_49, ze_113_50, ze_113_53, ze_113_54, z_k_r, z_push_s, z_push_n, okS_0, okS_I, okS_R, okS_A, List.getElem?_cons_zero, List.getElem?_cons_succ, List.length_cons, List.length_nil, List.set_cons_zero, List.set_cons_succ, true_and, and_true, z_tI, z_tB, pk_mul, nI_add, cI_cl, cI_ix, nar_0, nar_1, nar_b, Nat.reduceAdd, Nat.reduceLT, Nat.reduceMul, cI_lt, cI_eq, ↓reduceIte, if_true, if_false, Nat.lt_irrefl, eq_self, Nat.reduceEqDiff, or_true, true_or, or_false, false_or, not_false_eq_true, not_true_eq_false, ce_5, zb_t, zb_f, sb_3 h1, hO, hd1, ↓sz, ↓e7, z_kJ_r, sb_O k1, ↓il, sb_0 k1, ↓ch, sb_p3 b2, cm]
  rw [zn_132]
  simp (disch := omega) only [ze_132_0, ze_132_1, ze_132_2, ze_132_5_i, ze_132_5, ze_132_6, ze_132_7, z_k_r, z_push_s, z_push_n, okS_0, okS_I, okS_R, okS_A, List.getElem?_cons_zero, List.getElem?_cons_succ, List.length_cons, List.length_nil, List.set_cons_zero, List.set_cons_succ, true_and, and_true, z_tI, z_tB, pk_mul, nI_add, cI_cl, cI_ix, nar_0, nar_1, nar_b, Nat.reduceAdd, Nat.reduceLT, Nat.reduceMul, cI_lt, cI_eq, ↓reduceIte, if_true, if_false, Nat.lt_irrefl, eq_self, Nat.reduceEqDiff, or_true, true_or, or_false, false_or, not_false_eq_true, not_true_eq_false, ce_5, zb_t, zb_f, hO, hd0, ↓in1, z_kJ_r]
-- literals
theorem j_codL {k : Nat} (hk : k < 6) : z_Ca g d 127 [.retAddr k] (F, q) P = P (.inr (some (.int (nI 0))), (F, q)) := by
  have na : vp_nar .byte (nI 0) = nI 0 := by decide +kernel
  rw [zn_127_l]
  simp (disch := omega) only [ze_127_0, ze_127_3, ze_127_6, ze_127_6_s, ze_127_7, ze_127_7_s, ze_127_10, ze_127_13, ze_127_14, z_k_r, z_push_s, z_push_n, okS_0, okS_I, okS_R, okS_A, List.getElem?_cons_zero, List.getElem?_cons_succ, List.length_cons, List.length_nil, List.set_cons_zero, List.set_cons_succ, true_and, and_true, z_tI, z_tB, pk_mul, nI_add, cI_cl, cI_ix, nar_0, nar_1, nar_b, Nat.reduceAdd, Nat.reduceLT, Nat.reduceMul, cI_lt, cI_eq, ↓reduceIte, if_true, if_false, Nat.lt_irrefl, eq_self, Nat.reduceEqDiff, or_true, true_or, or_false, false_or, not_false_eq_true, not_true_eq_false, ce_5, zb_t, zb_f, na]
theorem j_lenL {k : Nat} (hk : k < 6) (hd : 0 < d) : z_Ca g d 123 [.retAddr k] (F, q) P = P (.inr (some (.int (nI (z_lit k).length))), (F, q)) := by
  have cd := fun P => j_codL (g := g) (d := d - 1) (F := F) (q := q) (P := P) hk
  rw [zn_123_l]
  simp (disch := omega) only [ze_123_0, ze_123_0_s, ze_123_1, ze_123_1_s, ze_123_4, ze_123_4_s, ze_123_5, ze_123_5_s, ze_123_6, ze_123_6_r, ze_123_9, ze_123_10, z_k_r, z_push_s, z_push_n, okS_0, okS_I, okS_R, okS_A, List.getElem?_cons_zero, List.getElem?_cons_succ, List.length_cons, List.length_nil, List.set_cons_zero, List.set_cons_succ, true_and, and_true, z_tI, z_tB, pk_mul, nI_add, cI_cl, cI_ix, nar_0, nar_1, nar_b, Nat.reduceAdd, Nat.reduceLT, Nat.reduceMul, cI_lt, cI_eq, ↓reduceIte, if_true, if_false, Nat.lt_irrefl, eq_self, Nat.reduceEqDiff, or_true, true_or, or_false, false_or, not_false_eq_true, not_true_eq_false, ce_5, zb_t, zb_f, hd, ↓cd, z_kJ_r, sh_0]
theorem cP_l {k : Nat} (hk : k < 6) (hv : F v = some (byA cap u)) (hn : n + (z_lit k).length ≤ cap) (hc : cap ≤ 1000) (K : z_H → Prop) : z_cP (F, q) (.retAddr (50 + k)) (nI 0) v (nI n) (nI (z_lit k).length) K = K (z_up F v (byA cap (lu k n u)), q) := by
  have ll := lb_n k hk
  have e : z_cpy (F, q) (.retAddr (50 + k)) (nI 0) v (nI n) (nI (z_lit k).length) = some (z_up F v (byA cap (lu k n u)), q) := by
    unfold z_cpy
    dsimp only
    rw [hv]
    unfold byA
    dsimp only
    rw [cI_cl (by omega), cI_cl (by omega), cI_cl (by omega), if_pos ⟨(cI_rng (by omega)).1, (cI_rng (by omega)).1, (cI_rng (by omega)).1, by omega⟩, show 50 + k - 50 = k by omega, if_pos ⟨by omega, by omega, by omega⟩]
    have e2 : va_cpy (fun j => (z_lit k).getD j 0) (fun j => nI (u j)) 0 n (z_lit k).length = fun j => nI (lu k n u j) := by
      funext j
      unfold va_cpy lu
      by_cases z : n ≤ j ∧ j < n + (z_lit k).length
      · rw [if_pos z, if_pos z, Nat.zero_add]
        exact (lb_e hk _).1
      · rw [if_neg z, if_neg z]
    rw [e2]
  unfold z_cP
  rw [e]
theorem j_getB {k : Nat} (hk : k < 6) (hv : F v = some (byA cap u)) (hn : n + (z_lit k).length ≤ cap) (hc : cap ≤ 1000) (hd : 0 < d) : z_Ca g d 125 [.retAddr k, .ref v, .int (nI n), .int (nI 0)] (F, q) P = P (.inr none, (z_up F v (byA cap (lu k n u)), q)) := by
  have cd := fun P => j_codL (g := g) (d := d - 1) (F := F) (q := q) (P := P) hk
  have cp := fun q K => cP_l (q := q) (K := K) hk hv hn hc
  rw [zn_125_l]
  simp (disch := omega) only [ze_125_0, ze_125_0_s, ze_125_1, ze_125_1_r, ze_125_4, ze_125_5, ze_125_8, ze_125_8_s, ze_125_9, ze_125_9_s, ze_125_12, ze_125_13, ze_125_14, ze_125_15, ze_125_16, ze_125_17, ze_125_17_s, ze_125_18, ze_125_18_s, ze_125_21, ze_125_21_s, ze_125_22, ze_125_25, ze_125_28, ze_125_28_s, ze_125_29, ze_125_29_s, ze_125_32, ze_125_33, ze_125_34, ze_125_35, ze_125_35_s, ze_125_36, ze_125_36_s, ze_125_39, ze_125_39_s, ze_125_43, z_k_r, z_push_s, z_push_n, okS_0, okS_I, okS_R, okS_A, List.getElem?_cons_zero, List.getElem?_cons_succ, List.length_cons, List.length_nil, List.set_cons_zero, List.set_cons_succ, true_and, and_true, z_tI, z_tB, pk_mul, nI_add, cI_cl, cI_ix, nar_0, nar_1, nar_b, Nat.reduceAdd, Nat.reduceLT, Nat.reduceMul, cI_lt, cI_eq, ↓reduceIte, if_true, if_false, Nat.lt_irrefl, eq_self, Nat.reduceEqDiff, or_true, true_or, or_false, false_or, not_false_eq_true, not_true_eq_false, ce_5, zb_t, zb_f, hd, ↓cd, z_kJ_r, sl_0, cp]
theorem j_putS {k : Nat} (hk : k < 6) (hb : F b = some (sbF v n)) (hv : F v = some (byA cap u)) (hn : n + (z_lit k).length ≤ cap) (hc : cap ≤ 1000) (hd : 2 < d) : z_Ca g d 117 [.ref b, .int (nI n), .retAddr k] (F, q) P = P (.inr none, (z_up F v (byA cap (lu k n u)), q)) := by
  have hd0 : 0 < d := by omega
  have hd1 : 0 < d - 1 := by omega
  have cd := fun P => j_codL (g := g) (d := d - 1 - 1) (F := F) (q := q) (P := P) hk
  have gb := fun P => j_getB (g := g) (d := d - 1) (q := q) (P := P) hk hv hn hc (by omega)
  have inf : ∀ P : z_Res → Prop, z_Ca g (d - 1) 116 [.ref b, .retAddr k] (F, q) P = P (.inr none, (F, q)) := fun P => by
    rw [zn_116_l]
    simp (disch := omega) only [ze_116_0, ze_116_3, ze_116_6, ze_116_7, ze_116_10, ze_116_10_s, ze_116_11, ze_116_11_r, ze_116_14, ze_116_17, ze_116_21, z_k_r, z_push_s, z_push_n, okS_0, okS_I, okS_R, okS_A, List.getElem?_cons_zero, List.getElem?_cons_succ, List.length_cons, List.length_nil, List.set_cons_zero, List.set_cons_succ, true_and, and_true, z_tI, z_tB, pk_mul, nI_add, cI_cl, cI_ix, nar_0, nar_1, nar_b, Nat.reduceAdd, Nat.reduceLT, Nat.reduceMul, cI_lt, cI_eq, ↓reduceIte, if_true, if_false, Nat.lt_irrefl, eq_self, Nat.reduceEqDiff, or_true, true_or, or_false, false_or, not_false_eq_true, not_true_eq_false, ce_5, zb_t, zb_f, sb_1 hb, hd1, ↓cd, z_kJ_r]
  rw [zn_117_l]
  simp (disch := omega) only [ze_117_0, ze_117_1, ze_117_1_s, ze_117_2, ze_117_2_l, ze_117_5, ze_117_5_s, ze_117_6, ze_117_7, ze_117_10, ze_117_11, ze_117_12, ze_117_15, ze_117_15_r, ze_117_18, z_k_r, z_push_s, z_push_n, okS_0, okS_I, okS_R, okS_A, List.getElem?_cons_zero, List.getElem?_cons_succ, List.length_cons, List.length_nil, List.set_cons_zero, List.set_cons_succ, true_and, and_true, z_tI, z_tB, pk_mul, nI_add, cI_cl, cI_ix, nar_0, nar_1, nar_b, Nat.reduceAdd, Nat.reduceLT, Nat.reduceMul, cI_lt, cI_eq, ↓reduceIte, if_true, if_false, Nat.lt_irrefl, eq_self, Nat.reduceEqDiff, or_true, true_or, or_false, false_or, not_false_eq_true, not_true_eq_false, ce_5, zb_t, zb_f, sb_O hb, hd0, ↓inf, z_kJ_r, sb_0 hb, sb_1 hb, ↓gb]
theorem sb_str {D : Nat → Prop} {N x y k : Nat} (h : SBX D F N b n u) (hD : ∀ z, D z → z < N) (hd : 6 < d) (hn : n + (z_lit k).length ≤ 240) (hk : k < 6) : ∃ F' N' x' y', SBX D F' N' b (n + (z_lit k).length) (lu k n u) ∧ (∀ z, D z → F' z = F z) ∧ N ≤ N' ∧ x' ≤ x + 1 ∧ y' ≤ y + 500 ∧ ∀ P : z_Res → Prop, z_Ca g d 130 [.ref b, .retAddr k] (F, some N, x, y) P = P (.inr (some (.ref b)), (F', some N', x', y')) := by
  obtain ⟨v, cap, h⟩ := h
  obtain ⟨F1, N1, x1, y1, v1, cap1, e1, e2, e3, e4, e5, e6, e7⟩ := j_ens (g := g) (d := d - 1 - 1) (x := x) (y := y) (m := n + (z_lit k).length) h hD (by omega) (by omega)
  obtain ⟨k1, k2, a3, a4, k5, a6, a7, a8, a9, a10, a11, a12⟩ := e1
  have hd0 : 0 < d := by omega
  have hd1 : 0 < d - 1 := by omega
  have hO := sb_O h.1
  have h1 := h.1
  have ln := fun q P => j_lenL (g := g) (d := d - 1 - 1) (F := F) (q := q) (P := P) hk (by omega)
  have ps := fun q P => j_putS (g := g) (d := d - 1 - 1) (q := q) (P := P) hk k1 k2 (by omega) (by omega) (by omega)
  have b2 : z_up F1 v1 (byA cap1 (lu k n u)) b = some (sbF v1 n) := by rw [z_up_ne (fun e => a10 e.symm)]; exact k1
  refine ⟨z_up (z_up F1 v1 (byA cap1 (lu k n u))) b (sbF v1 (n + (z_lit k).length)), N1, x1, y1, ⟨v1, cap1, z_up_self _ _ _, by rw [z_up_ne a10]; exact z_up_self _ _ _, e2, a4, k5, fun j => ?_, fun j hj => ?_, a8, a9, a10, a11, a12⟩, fun z hz => ?_, e4, e5, e6, fun P => ?_⟩
  · unfold lu
    split
    · exact (lb_e hk _).2
    · exact a6 j
  · unfold lu
    rw [if_neg (by omega)]
    exact a7 j (by omega)
  · have wv : z ≠ v1 := fun e => a8 (e ▸ hz)
    have wb : z ≠ b := fun e => a9 (e ▸ hz)
    rw [z_up_ne wb, z_up_ne wv, e3 z hz]
  · have in1 : ∀ P : z_Res → Prop, z_Ca g (d - 1) 111 [.ref b, .retAddr k] (F, some N, x, y) P = P (.inr (some (.ref b)), (z_up (z_up F1 v1 (byA cap1 (lu k n u))) b (sbF v1 (n + (z_lit k).length)), some N1, x1, y1)) := fun P => by
      rw [zn_111_l]
      simp (disch := omega) only [ze_111_0, ze_111_0_s, ze_111_1, ze_111_1_n, ze_111_1_s, ze_111_4, ze_111_8, ze_111_9, ze_111_9_s, ze_111_10, ze_111_10_r, ze_111_13, ze_111_14, ze_111_15, ze_111_16, ze_111_19, ze_111_20, ze_111_21, ze_111_24, ze_111_25, ze_111_26, ze_111_29, ze_111_29_s, ze_111_30, ze_111_30_l, ze_111_33, ze_111_34, ze_111_34_i, ze_111_35, ze_111_38, ze_111_39, ze_111_40, ze_111_43, ze_111_44, z_k_r, z_push_s, z_push_n, okS_0, okS_I, okS_R, okS_A, List.getElem?_cons_zero, List.getElem?_cons_succ, List.length_cons, List.length_nil, List.set_cons_zero, List.set_cons_succ, true_and, and_true, z_tI, z_tB, pk_mul, nI_add, cI_cl, cI_ix, nar_0, nar_1, nar_b, Nat.reduceAdd, Nat.reduceLT, Nat.reduceMul, cI_lt, cI_eq, ↓reduceIte, if_true, if_false, Nat.lt_irrefl, eq_self, Nat.reduceEqDiff, or_true, true_or, or_false, false_or, not_false_eq_true, not_true_eq_false, ce_5, zb_t, zb_f, sb_3 h1, hO, hd1, ↓ln, ↓e7, z_kJ_r, sb_O k1, sb_3 k1, ↓ps, sb_3 b2, sb_p3 b2]
    rw [zn_130_l]
    simp (disch := omega) only [ze_130_0, ze_130_1, ze_130_1_s, ze_130_2, ze_130_2_l, ze_130_5_i, ze_130_5, ze_130_6, ze_130_7, z_k_r, z_push_s, z_push_n, okS_0, okS_I, okS_R, okS_A, List.getElem?_cons_zero, List.getElem?_cons_succ, List.length_cons, List.length_nil, List.set_cons_zero, List.set_cons_succ, true_and, and_true, z_tI, z_tB, pk_mul, nI_add, cI_cl, cI_ix, nar_0, nar_1, nar_b, Nat.reduceAdd, Nat.reduceLT, Nat.reduceMul, cI_lt, cI_eq, ↓reduceIte, if_true, if_false, Nat.lt_irrefl, eq_self, Nat.reduceEqDiff, or_true, true_or, or_false, false_or, not_false_eq_true, not_true_eq_false, ce_5, zb_t, zb_f, hO, hd0, ↓in1, z_kJ_r]
theorem sb_len (hb : F b = some (sbF v n)) (hd : 0 < d) : z_Ca g d 134 [.ref b] (F, q) P = P (.inr (some (.int (nI n))), (F, q)) := by
  have in1 : ∀ P : z_Res → Prop, z_Ca g (d - 1) 108 [.ref b] (F, q) P = P (.inr (some (.int (nI n))), (F, q)) := fun P => by
    rw [zn_108]
    simp (disch := omega) only [ze_108_0, ze_108_1, ze_108_4, z_k_r, z_push_s, z_push_n, okS_0, okS_I, okS_R, okS_A, List.getElem?_cons_zero, List.getElem?_cons_succ, List.length_cons, List.length_nil, List.set_cons_zero, List.set_cons_succ, true_and, and_true, z_tI, z_tB, pk_mul, nI_add, cI_cl, cI_ix, nar_0, nar_1, nar_b, Nat.reduceAdd, Nat.reduceLT, Nat.reduceMul, cI_lt, cI_eq, ↓reduceIte, if_true, if_false, Nat.lt_irrefl, eq_self, Nat.reduceEqDiff, or_true, true_or, or_false, false_or, not_false_eq_true, not_true_eq_false, ce_5, zb_t, zb_f, sb_3 hb]
  rw [zn_134]
  simp (disch := omega) only [ze_134_0, ze_134_1, ze_134_4, z_k_r, z_push_s, z_push_n, okS_0, okS_I, okS_R, okS_A, List.getElem?_cons_zero, List.getElem?_cons_succ, List.length_cons, List.length_nil, List.set_cons_zero, List.set_cons_succ, true_and, and_true, z_tI, z_tB, pk_mul, nI_add, cI_cl, cI_ix, nar_0, nar_1, nar_b, Nat.reduceAdd, Nat.reduceLT, Nat.reduceMul, cI_lt, cI_eq, ↓reduceIte, if_true, if_false, Nat.lt_irrefl, eq_self, Nat.reduceEqDiff, or_true, true_or, or_false, false_or, not_false_eq_true, not_true_eq_false, ce_5, zb_t, zb_f, sb_O hb, hd, ↓in1, z_kJ_r]
end
