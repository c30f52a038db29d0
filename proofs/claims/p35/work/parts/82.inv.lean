/-! what holds between two calls -/
def iGV (S : GS) (K : Nat → Nat → Int32) : Prop := ∃ gc : Nat → Nat, (∀ k, gc k ≤ 5) ∧ (∀ k, k < 25 → K 1 k = ce (gc k)) ∧ (∀ k, k < 25 → S.gv k = !decide (gc k = 5)) ∧ S.G = nF gc 25
def iWK (I : Nat → Int32) (A : Nat → Nat → Int32) : Prop := ∃ (ol : Nat → Nat) (n : Nat), I 8 = nI n ∧ A 24 = fun i => nI (ol i)
def iTX (I : Nat → Int32) (A : Nat → Nat → Int32) (J : Nat → Int32) (K : Nat → Nat → Int32) : Prop := ∃ (len : Nat) (tb : Nat → Nat), len ≤ 500 ∧ I 0 = nI len ∧ J 13 = nI len ∧ (∀ k, tb k < 256) ∧ (∀ k, k < 500 → A 8 k = bs (tb k)) ∧ ∀ k, k < 500 → K 6 k = bs (tb k)
def iHS (S : GS) (I : Nat → Int32) (A : Nat → Nat → Int32) (J : Nat → Int32) (K : Nat → Nat → Int32) : Prop := ∃ (nx cn : Nat) (u : Nat → Nat → Nat), nx < 10 ∧ cn ≤ 10 ∧ I 12 = nI nx ∧ I 13 = nI cn ∧ J 23 = nI cn ∧ ∀ i, i < cn → GI (S.sc (u i)) ∧ (∀ k, k < 25 → A (31 + (nx + 9 - i) % 10) k = ce (u i k)) ∧ ∀ k, k < 25 → K 8 (25 * (cn - 1 - i) + k) = ce (u i k)
def iSN (S : GS) (A K : Nat → Nat → Int32) : Prop := ∃ (sv : Nat → Bool) (t : Nat → Nat → Nat), ∀ s, s < 2 → A 45 s = zb (sv s) ∧ K 12 s = zb (sv s) ∧ (sv s = true → GI (S.sc (t s)) ∧ (∀ k, k < 25 → A (43 + s) k = ce (t s k)) ∧ ∀ k, k < 25 → K 9 (25 * s + k) = ce (t s k))
section
variable {G G' : Nat → GS} {I I' J J' : Nat → Int32} {A A' K K' : Nat → Nat → Int32}
/-- the class's side when nothing that counts changes -/
def cSM (G G' : Nat → GS) (I I' : Nat → Int32) (A A' : Nat → Nat → Int32) : Prop := G' 1 = G 1 ∧ I' 0 = I 0 ∧ I' 12 = I 12 ∧ I' 13 = I 13 ∧ I' 14 = I 14 ∧ iWK I' A' ∧ A' 8 = A 8 ∧ (∀ i, i < 10 → A' (31 + i) = A (31 + i)) ∧ A' 43 = A 43 ∧ A' 44 = A 44 ∧ A' 45 = A 45
def mSM (J J' : Nat → Int32) (K K' : Nat → Nat → Int32) : Prop := J' 1 = J 1 ∧ J' 2 = J 2 ∧ J' 3 = J 3 ∧ J' 13 = J 13 ∧ J' 20 = J 20 ∧ J' 23 = J 23 ∧ K' 1 = K 1 ∧ K' 2 = K 2 ∧ (∀ k, k < 25 → K' 5 k = K 5 k) ∧ K' 6 = K 6 ∧ K' 8 = K 8 ∧ K' 9 = K 9 ∧ K' 12 = K 12
theorem cSM.r (h : iWK I A) : cSM G G I I A A := ⟨rfl, rfl, rfl, rfl, rfl, h, rfl, fun _ _ => rfl, rfl, rfl, rfl⟩
theorem mSM.r : mSM J J K K := ⟨rfl, rfl, rfl, rfl, rfl, rfl, rfl, rfl, fun _ _ => rfl, rfl, rfl, rfl, rfl⟩
theorem mSM.z (x : Int32) : mSM J (upd J 0 x) K K := ⟨upd_ne (by omega), upd_ne (by omega), upd_ne (by omega), upd_ne (by omega), upd_ne (by omega), upd_ne (by omega), rfl, rfl, fun _ _ => rfl, rfl, rfl, rfl, rfl⟩
theorem mod_a {nx i : Nat} (hx : nx < 10) (hi : i < 9) : ((nx + 1) % 10 + 9 - (i + 1)) % 10 = (nx + 9 - i) % 10 ∧ (nx + 9 - i) % 10 ≠ nx := by
  constructor
  · by_cases h : nx = 9
    · subst h
      rw [show (9 + 1) % 10 = 0 by omega]
      omega
    · rw [show (nx + 1) % 10 = nx + 1 by omega]
      omega
  · omega
theorem mod_b {nx i : Nat} (hx : nx < 10) (hi : i < 9) : ((nx + 9) % 10 + 9 - i) % 10 = (nx + 9 - (i + 1)) % 10 := by
  by_cases h : nx = 0
  · subst h
    rw [show (0 + 9) % 10 = 9 by omega]
    omega
  · rw [show (nx + 9) % 10 = nx - 1 by omega]
    omega
/-- the history with the present cells recorded: the rectangle's cells may change then -/
theorem iHS.rec9 {S : GS} (hg : GI S) {nx cn : Nat} {u : Nat → Nat → Nat} {A1 K1 : Nat → Nat → Int32} {N : Nat → Int32} (hx : nx < 10) (hc : cn ≤ 10) (hu : ∀ i, i < cn → GI (S.sc (u i)) ∧ (∀ k, k < 25 → A (31 + (nx + 9 - i) % 10) k = ce (u i k)) ∧ ∀ k, k < 25 → K 8 (25 * (cn - 1 - i) + k) = ce (u i k)) (hA : ∀ i, i < 10 → A1 (31 + i) = if i = nx then (fun k => ce (S.c k)) else A (31 + i)) (hK : K1 8 = kpF (K 8) N cn) (hN : ∀ k, k < 25 → N k = ce (S.c k)) (h12 : I' 12 = nI ((nx + 1) % 10)) (h13 : I' 13 = nI (min (cn + 1) 10)) (h23 : J' 23 = nI (min (cn + 1) 10)) (c : Nat → Nat) : iHS (S.sc c) I' A1 J' K1 := by
  refine ⟨(nx + 1) % 10, min (cn + 1) 10, fun i => if i = 0 then S.c else u (i - 1), Nat.mod_lt _ (by omega), by omega, h12, h13, h23, fun i hi => ?_⟩
  cases i with
  | zero =>
    refine ⟨hg, fun k hk => ?_, fun k hk => ?_⟩
    · have : ((nx + 1) % 10 + 9 - 0) % 10 = nx := by
        by_cases h : nx = 9
        · subst h; rfl
        · rw [show (nx + 1) % 10 = nx + 1 by omega]; omega
      rw [this, hA nx hx, if_pos rfl]
      rfl
    · show K1 8 _ = ce (S.c k)
      rw [hK]
      unfold kpF
      by_cases e : cn = 10
      · subst e
        rw [if_pos rfl]
        unfold cpF
        rw [if_pos (by omega), ← hN k hk]
        exact congrArg N (by omega)
      · rw [if_neg e]
        unfold cpF
        rw [if_pos (by omega), ← hN k hk]
        exact congrArg N (by omega)
  | succ i =>
    obtain ⟨v1, v2, v3⟩ := hu i (by omega)
    obtain ⟨q1, q2⟩ := mod_a (i := i) hx (by omega)
    refine ⟨v1, fun k hk => ?_, fun k hk => ?_⟩
    · rw [q1, hA _ (Nat.mod_lt _ (by omega)), if_neg q2]
      exact v2 k hk
    · show K1 8 _ = ce (u i k)
      rw [hK, ← v3 k hk]
      unfold kpF
      by_cases e : cn = 10
      · subst e
        rw [if_pos rfl]
        unfold cpF
        rw [if_neg (by omega), if_pos (by omega)]
        exact congrArg (K 8) (by omega)
      · rw [if_neg e]
        unfold cpF
        rw [if_neg (by omega)]
        exact congrArg (K 8) (by omega)
theorem iSN.sc {S : GS} (h : iSN S A K) (c : Nat → Nat) : iSN (S.sc c) A K := h
theorem iHS.sc {S : GS} (h : iHS S I A J K) (c : Nat → Nat) : iHS (S.sc c) I A J K := h
theorem iGV.sc {S : GS} (h : iGV S K) (c : Nat → Nat) : iGV (S.sc c) K := h
end
section
variable {g : z_G} {d : Nat} {f : Nat → Option z_C} {q : Option Nat × Nat × Nat} {P : z_Res → Prop} {B : Nat} {G : Nat → GS} {I : Nat → Int32} {A : Nat → Nat → Int32}
theorem xX : gw (xw f B G I A) (B + 1) (G 1).w B = some (.inr (9, [.ref (B + 1), .ref (B + 7), .ref (B + 9), .ref (B + 16), .ref (B + 17), .ref (B + 25), .ref (B + 27), .ref (B + 29), .ref (B + 41), .ref (B + 46), .int (I 14)])) := by rw [xj_1]; exact xw_0 f B G I A
theorem xF : gw (xw f B G I A) (B + 1) (G 1).w (B + 16) = some (.inr (2, [.ref (B + 1)])) := by rw [xj_1]; exact xw_16 f B G I A
theorem xc_row (v : Int32) : z_Ca g d 89 [.ref B, .int v] (xw f B G I A, q) P = if okN v (G 1).R = true then P (.inr none, (xw f B G I A, q)) else P (.inl "java/lang/IndexOutOfBoundsException", thr (xw f B G I A, q)) := by
  have := c_row (g := g) (d := d) (q := q) (P := P) (xX (f := f) (B := B) (G := G) (I := I) (A := A)) v
  rw [xj_1] at this
  exact this
theorem xc_cell (hd : 0 < d) (v w : Int32) : z_Ca g d 90 [.ref B, .int v, .int w] (xw f B G I A, q) P = if okN v (G 1).R = true ∧ okN w (G 1).C = true then P (.inr none, (xw f B G I A, q)) else P (.inl "java/lang/IndexOutOfBoundsException", thr (xw f B G I A, q)) := by
  have := c_cell (g := g) (d := d) (q := q) (P := P) (xX (f := f) (B := B) (G := G) (I := I) (A := A)) hd v w
  rw [xj_1] at this
  exact this
theorem xc_cyc (hg : GI (G 1)) (hd : 1 < d) {a b c : Nat} (ha : a < (G 1).R) (hb : b < (G 1).R) (hc : c < (G 1).C) : z_Ca g d 91 [.ref B, .int (nI a), .int (nI b), .int (nI c)] (xw f B G I A, q) P = if a = b then P (.inl "java/lang/IllegalArgumentException", thr (xw f B G I A, q)) else if (G 1).fl a = true ∧ (G 1).fl b = true then P (.inr none, (xw f B G I A, q)) else P (.inl "java/lang/IllegalStateException", thr (xw f B G I A, q)) := by
  have hC := hg.C5
  have hR := hg.RC
  have hd0 : 0 < d := by omega
  have o1 := okN_nI (by omega) ha
  have o2 := okN_nI (by omega) hb
  have o3 := okN_nI (by omega) hc
  have c1 := fun P => xc_cell (g := g) (d := d - 1) (f := f) (q := q) (P := P) (B := B) (G := G) (I := I) (A := A) (by omega) (nI b) (nI c)
  rw [zn_91]
  simp (disch := omega) only [ze_91_0, ze_91_1, ze_91_2, ze_91_5, ze_91_6, ze_91_7, ze_91_8, ze_91_11, ze_91_12, ze_91_13, ze_91_16, ze_91_27, ze_91_28, ze_91_31, ze_91_32, ze_91_35, ze_91_38, ze_91_39, ze_91_42, ze_91_43, ze_91_46, ze_91_49, ze_91_60, z_k_r, z_push_s, z_push_n, okS_0, okS_I, okS_R, okS_A, List.getElem?_cons_zero, List.getElem?_cons_succ, List.length_cons, List.length_nil, List.set_cons_zero, List.set_cons_succ, true_and, and_true, z_tI, z_tB, pk_mul, nI_add, cI_cl, cI_ix, nar_0, nar_1, nar_b, Nat.reduceAdd, Nat.reduceLT, Nat.reduceMul, ↓xr_0_0_q, xr_0_0, ↓xr_0_1_q, xr_0_1, ↓xr_0_2_q, xr_0_2, ↓xr_0_3_q, xr_0_3, ↓xr_0_4_q, xr_0_4, ↓xr_0_5_q, xr_0_5, ↓xr_0_6_q, xr_0_6, ↓xr_0_7_q, xr_0_7, ↓xr_0_8_q, xr_0_8, ↓xr_0_9_q, xr_0_9, ↓xg_14_q, xg_14, ↓xp_14_q, xp_14, ↓xr_7_0_q, xr_7_0, ↓xg_0_q, xg_0, ↓xp_0_q, xp_0, ↓xg_1_q, xg_1, ↓xp_1_q, xp_1, ↓xg_2_q, xg_2, ↓xp_2_q, xp_2, ↓xg_3_q, xg_3, ↓xp_3_q, xp_3, ↓xg_4_q, xg_4, ↓xp_4_q, xp_4, ↓xg_5_q, xg_5, ↓xp_5_q, xp_5, ↓xr_9_0_q, xr_9_0, ↓xr_9_1_q, xr_9_1, ↓xg_6_q, xg_6, ↓xp_6_q, xp_6, ↓xg_7_q, xg_7, ↓xp_7_q, xp_7, ↓xr_16_0_q, xr_16_0, ↓xr_17_0_q, xr_17_0, ↓xr_17_1_q, xr_17_1, ↓xr_17_2_q, xr_17_2, ↓xg_8_q, xg_8, ↓xp_8_q, xp_8, ↓xr_25_0_q, xr_25_0, ↓xr_25_1_q, xr_25_1, ↓xg_9_q, xg_9, ↓xp_9_q, xp_9, ↓xg_10_q, xg_10, ↓xp_10_q, xp_10, ↓xr_27_0_q, xr_27_0, ↓xr_27_1_q, xr_27_1, ↓xg_11_q, xg_11, ↓xp_11_q, xp_11, ↓xr_29_0_q, xr_29_0, ↓xg_12_q, xg_12, ↓xp_12_q, xp_12, ↓xg_13_q, xg_13, ↓xp_13_q, xp_13, ↓xr_41_0_q, xr_41_0, ↓xr_41_1_q, xr_41_1, ↓xL_8_q, xL_8, ↓xS_8_q, xS_8, ↓xL_24_q, xL_24, ↓xS_24_q, xS_24, ↓xL_26_q, xL_26, ↓xS_26_q, xS_26, ↓xL_28_q, xL_28, ↓xS_28_q, xS_28, ↓xL_31_q, xL_31, ↓xS_31_q, xS_31, ↓xL_32_q, xL_32, ↓xS_32_q, xS_32, ↓xL_33_q, xL_33, ↓xS_33_q, xS_33, ↓xL_34_q, xL_34, ↓xS_34_q, xS_34, ↓xL_35_q, xL_35, ↓xS_35_q, xS_35, ↓xL_36_q, xL_36, ↓xS_36_q, xS_36, ↓xL_37_q, xL_37, ↓xS_37_q, xS_37, ↓xL_38_q, xL_38, ↓xS_38_q, xS_38, ↓xL_39_q, xL_39, ↓xS_39_q, xS_39, ↓xL_40_q, xL_40, ↓xS_40_q, xS_40, ↓xL_43_q, xL_43, ↓xS_43_q, xS_43, ↓xL_44_q, xL_44, ↓xS_44_q, xS_44, ↓xL_45_q, xL_45, ↓xS_45_q, xS_45, ↓xL_46_q, xL_46, ↓xS_46_q, xS_46, ↓xq_30_q, xq_30, ↓xq_42_q, xq_42, ↓xr_1_0_q, xr_1_0, ↓xr_1_1_q, xr_1_1, ↓xr_1_2_q, xr_1_2, ↓xr_1_3_q, xr_1_3, ↓xr_1_4_q, xr_1_4, ↓xh_1_0_q, xh_1_0, ↓xh_1_1_q, xh_1_1, ↓xh_1_2_q, xh_1_2, ↓xh_1_3_q, xh_1_3, ↓xh_1_4_q, xh_1_4, ↓xL_2_q, xL_2, ↓xL_3_q, xL_3, ↓xL_4_q, xL_4, ↓xL_5_q, xL_5, ↓xL_6_q, xL_6, ↓xr_10_0_q, xr_10_0, ↓xr_10_1_q, xr_10_1, ↓xr_10_2_q, xr_10_2, ↓xr_10_3_q, xr_10_3, ↓xr_10_4_q, xr_10_4, ↓xh_10_0_q, xh_10_0, ↓xh_10_1_q, xh_10_1, ↓xh_10_2_q, xh_10_2, ↓xh_10_3_q, xh_10_3, ↓xh_10_4_q, xh_10_4, ↓xL_11_q, xL_11, ↓xL_12_q, xL_12, ↓xL_13_q, xL_13, ↓xL_14_q, xL_14, ↓xL_15_q, xL_15, ↓xr_18_0_q, xr_18_0, ↓xr_18_1_q, xr_18_1, ↓xr_18_2_q, xr_18_2, ↓xr_18_3_q, xr_18_3, ↓xr_18_4_q, xr_18_4, ↓xh_18_0_q, xh_18_0, ↓xh_18_1_q, xh_18_1, ↓xh_18_2_q, xh_18_2, ↓xh_18_3_q, xh_18_3, ↓xh_18_4_q, xh_18_4, ↓xL_19_q, xL_19, ↓xL_20_q, xL_20, ↓xL_21_q, xL_21, ↓xL_22_q, xL_22, ↓xL_23_q, xL_23, xo_0, xo_7, xo_9, xo_16, xo_17, xo_25, xo_27, xo_29, xo_41, xo_1, xo_10, xo_18, uA_s, uA_n, uG_s, uG_n, ne_eq, Nat.reduceEqDiff, not_false_eq_true, cI_lt, cI_eq, ↓reduceIte, if_true, if_false, Nat.lt_irrefl, eq_self, Nat.reduceEqDiff, or_true, true_or, or_false, false_or, not_false_eq_true, not_true_eq_false, ce_5, zb_t, zb_f, hd0, ↓xc_row, ↓c1, o1, o2, o3, and_self, ↓x_full hg, zb_0]
  by_cases e : a = b
  · simp [e, thr]
  · cases e1 : (G 1).fl a <;> cases e2 : (G 1).fl b <;> simp [e, thr]
theorem xc_cycBad (hg : GI (G 1)) (hd : 1 < d) {a b c : Int32} (h : ¬ (okN a (G 1).R = true ∧ okN b (G 1).R = true ∧ okN c (G 1).C = true)) : z_Ca g d 91 [.ref B, .int a, .int b, .int c] (xw f B G I A, q) P = P (.inl "java/lang/IndexOutOfBoundsException", thr (xw f B G I A, q)) := by
  have hd0 : 0 < d := by omega
  have c1 := fun P => xc_cell (g := g) (d := d - 1) (f := f) (q := q) (P := P) (B := B) (G := G) (I := I) (A := A) (by omega) b c
  rw [zn_91]
  cases e1 : okN a (G 1).R
  · simp (disch := omega) only [ze_91_0, ze_91_1, ze_91_2, ze_91_5, ze_91_6, ze_91_7, ze_91_8, ze_91_11, ze_91_12, ze_91_13, ze_91_16, ze_91_27, ze_91_28, ze_91_31, ze_91_32, ze_91_35, ze_91_38, ze_91_39, ze_91_42, ze_91_43, ze_91_46, ze_91_49, ze_91_60, z_k_r, z_push_s, z_push_n, okS_0, okS_I, okS_R, okS_A, List.getElem?_cons_zero, List.getElem?_cons_succ, List.length_cons, List.length_nil, List.set_cons_zero, List.set_cons_succ, true_and, and_true, z_tI, z_tB, pk_mul, nI_add, cI_cl, cI_ix, nar_0, nar_1, nar_b, Nat.reduceAdd, Nat.reduceLT, Nat.reduceMul, ↓xr_0_0_q, xr_0_0, ↓xr_0_1_q, xr_0_1, ↓xr_0_2_q, xr_0_2, ↓xr_0_3_q, xr_0_3, ↓xr_0_4_q, xr_0_4, ↓xr_0_5_q, xr_0_5, ↓xr_0_6_q, xr_0_6, ↓xr_0_7_q, xr_0_7, ↓xr_0_8_q, xr_0_8, ↓xr_0_9_q, xr_0_9, ↓xg_14_q, xg_14, ↓xp_14_q, xp_14, ↓xr_7_0_q, xr_7_0, ↓xg_0_q, xg_0, ↓xp_0_q, xp_0, ↓xg_1_q, xg_1, ↓xp_1_q, xp_1, ↓xg_2_q, xg_2, ↓xp_2_q, xp_2, ↓xg_3_q, xg_3, ↓xp_3_q, xp_3, ↓xg_4_q, xg_4, ↓xp_4_q, xp_4, ↓xg_5_q, xg_5, ↓xp_5_q, xp_5, ↓xr_9_0_q, xr_9_0, ↓xr_9_1_q, xr_9_1, ↓xg_6_q, xg_6, ↓xp_6_q, xp_6, ↓xg_7_q, xg_7, ↓xp_7_q, xp_7, ↓xr_16_0_q, xr_16_0, ↓xr_17_0_q, xr_17_0, ↓xr_17_1_q, xr_17_1, ↓xr_17_2_q, xr_17_2, ↓xg_8_q, xg_8, ↓xp_8_q, xp_8, ↓xr_25_0_q, xr_25_0, ↓xr_25_1_q, xr_25_1, ↓xg_9_q, xg_9, ↓xp_9_q, xp_9, ↓xg_10_q, xg_10, ↓xp_10_q, xp_10, ↓xr_27_0_q, xr_27_0, ↓xr_27_1_q, xr_27_1, ↓xg_11_q, xg_11, ↓xp_11_q, xp_11, ↓xr_29_0_q, xr_29_0, ↓xg_12_q, xg_12, ↓xp_12_q, xp_12, ↓xg_13_q, xg_13, ↓xp_13_q, xp_13, ↓xr_41_0_q, xr_41_0, ↓xr_41_1_q, xr_41_1, ↓xL_8_q, xL_8, ↓xS_8_q, xS_8, ↓xL_24_q, xL_24, ↓xS_24_q, xS_24, ↓xL_26_q, xL_26, ↓xS_26_q, xS_26, ↓xL_28_q, xL_28, ↓xS_28_q, xS_28, ↓xL_31_q, xL_31, ↓xS_31_q, xS_31, ↓xL_32_q, xL_32, ↓xS_32_q, xS_32, ↓xL_33_q, xL_33, ↓xS_33_q, xS_33, ↓xL_34_q, xL_34, ↓xS_34_q, xS_34, ↓xL_35_q, xL_35, ↓xS_35_q, xS_35, ↓xL_36_q, xL_36, ↓xS_36_q, xS_36, ↓xL_37_q, xL_37, ↓xS_37_q, xS_37, ↓xL_38_q, xL_38, ↓xS_38_q, xS_38, ↓xL_39_q, xL_39, ↓xS_39_q, xS_39, ↓xL_40_q, xL_40, ↓xS_40_q, xS_40, ↓xL_43_q, xL_43, ↓xS_43_q, xS_43, ↓xL_44_q, xL_44, ↓xS_44_q, xS_44, ↓xL_45_q, xL_45, ↓xS_45_q, xS_45, ↓xL_46_q, xL_46, ↓xS_46_q, xS_46, ↓xq_30_q, xq_30, ↓xq_42_q, xq_42, ↓xr_1_0_q, xr_1_0, ↓xr_1_1_q, xr_1_1, ↓xr_1_2_q, xr_1_2, ↓xr_1_3_q, xr_1_3, ↓xr_1_4_q, xr_1_4, ↓xh_1_0_q, xh_1_0, ↓xh_1_1_q, xh_1_1, ↓xh_1_2_q, xh_1_2, ↓xh_1_3_q, xh_1_3, ↓xh_1_4_q, xh_1_4, ↓xL_2_q, xL_2, ↓xL_3_q, xL_3, ↓xL_4_q, xL_4, ↓xL_5_q, xL_5, ↓xL_6_q, xL_6, ↓xr_10_0_q, xr_10_0, ↓xr_10_1_q, xr_10_1, ↓xr_10_2_q, xr_10_2, ↓xr_10_3_q, xr_10_3, ↓xr_10_4_q, xr_10_4, ↓xh_10_0_q, xh_10_0, ↓xh_10_1_q, xh_10_1, ↓xh_10_2_q, xh_10_2, ↓xh_10_3_q, xh_10_3, ↓xh_10_4_q, xh_10_4, ↓xL_11_q, xL_11, ↓xL_12_q, xL_12, ↓xL_13_q, xL_13, ↓xL_14_q, xL_14, ↓xL_15_q, xL_15, ↓xr_18_0_q, xr_18_0, ↓xr_18_1_q, xr_18_1, ↓xr_18_2_q, xr_18_2, ↓xr_18_3_q, xr_18_3, ↓xr_18_4_q, xr_18_4, ↓xh_18_0_q, xh_18_0, ↓xh_18_1_q, xh_18_1, ↓xh_18_2_q, xh_18_2, ↓xh_18_3_q, xh_18_3, ↓xh_18_4_q, xh_18_4, ↓xL_19_q, xL_19, ↓xL_20_q, xL_20, ↓xL_21_q, xL_21, ↓xL_22_q, xL_22, ↓xL_23_q, xL_23, xo_0, xo_7, xo_9, xo_16, xo_17, xo_25, xo_27, xo_29, xo_41, xo_1, xo_10, xo_18, uA_s, uA_n, uG_s, uG_n, ne_eq, Nat.reduceEqDiff, not_false_eq_true, cI_lt, cI_eq, ↓reduceIte, if_true, if_false, Nat.lt_irrefl, eq_self, Nat.reduceEqDiff, or_true, true_or, or_false, false_or, not_false_eq_true, not_true_eq_false, ce_5, zb_t, zb_f, hd0, ↓xc_row, e1, z_k_l, Bool.false_eq_true]
  · have h2 : ¬ (okN b (G 1).R = true ∧ okN c (G 1).C = true) := fun z => h ⟨e1, z⟩
    simp (disch := omega) only [ze_91_0, ze_91_1, ze_91_2, ze_91_5, ze_91_6, ze_91_7, ze_91_8, ze_91_11, ze_91_12, ze_91_13, ze_91_16, ze_91_27, ze_91_28, ze_91_31, ze_91_32, ze_91_35, ze_91_38, ze_91_39, ze_91_42, ze_91_43, ze_91_46, ze_91_49, ze_91_60, z_k_r, z_push_s, z_push_n, okS_0, okS_I, okS_R, okS_A, List.getElem?_cons_zero, List.getElem?_cons_succ, List.length_cons, List.length_nil, List.set_cons_zero, List.set_cons_succ, true_and, and_true, z_tI, z_tB, pk_mul, nI_add, cI_cl, cI_ix, nar_0, nar_1, nar_b, Nat.reduceAdd, Nat.reduceLT, Nat.reduceMul, ↓xr_0_0_q, xr_0_0, ↓xr_0_1_q, xr_0_1, ↓xr_0_2_q, xr_0_2, ↓xr_0_3_q, xr_0_3, ↓xr_0_4_q, xr_0_4, ↓xr_0_5_q, xr_0_5, ↓xr_0_6_q, xr_0_6, ↓xr_0_7_q, xr_0_7, ↓xr_0_8_q, xr_0_8, ↓xr_0_9_q, xr_0_9, ↓xg_14_q, xg_14, ↓xp_14_q, xp_14, ↓xr_7_0_q, xr_7_0, ↓xg_0_q, xg_0, ↓xp_0_q, xp_0, ↓xg_1_q, xg_1, ↓xp_1_q, xp_1, ↓xg_2_q, xg_2, ↓xp_2_q, xp_2, ↓xg_3_q, xg_3, ↓xp_3_q, xp_3, ↓xg_4_q, xg_4, ↓xp_4_q, xp_4, ↓xg_5_q, xg_5, ↓xp_5_q, xp_5, ↓xr_9_0_q, xr_9_0, ↓xr_9_1_q, xr_9_1, ↓xg_6_q, xg_6, ↓xp_6_q, xp_6, ↓xg_7_q, xg_7, ↓xp_7_q, xp_7, ↓xr_16_0_q, xr_16_0, ↓xr_17_0_q, xr_17_0, ↓xr_17_1_q, xr_17_1, ↓xr_17_2_q, xr_17_2, ↓xg_8_q, xg_8, ↓xp_8_q, xp_8, ↓xr_25_0_q, xr_25_0, ↓xr_25_1_q, xr_25_1, ↓xg_9_q, xg_9, ↓xp_9_q, xp_9, ↓xg_10_q, xg_10, ↓xp_10_q, xp_10, ↓xr_27_0_q, xr_27_0, ↓xr_27_1_q, xr_27_1, ↓xg_11_q, xg_11, ↓xp_11_q, xp_11, ↓xr_29_0_q, xr_29_0, ↓xg_12_q, xg_12, ↓xp_12_q, xp_12, ↓xg_13_q, xg_13, ↓xp_13_q, xp_13, ↓xr_41_0_q, xr_41_0, ↓xr_41_1_q, xr_41_1, ↓xL_8_q, xL_8, ↓xS_8_q, xS_8, ↓xL_24_q, xL_24, ↓xS_24_q, xS_24, ↓xL_26_q, xL_26, ↓xS_26_q, xS_26, ↓xL_28_q, xL_28, ↓xS_28_q, xS_28, ↓xL_31_q, xL_31, ↓xS_31_q, xS_31, ↓xL_32_q, xL_32, ↓xS_32_q, xS_32, ↓xL_33_q, xL_33, ↓xS_33_q, xS_33, ↓xL_34_q, xL_34, ↓xS_34_q, xS_34, ↓xL_35_q, xL_35, ↓xS_35_q, xS_35, ↓xL_36_q, xL_36, ↓xS_36_q, xS_36, ↓xL_37_q, xL_37, ↓xS_37_q, xS_37, ↓xL_38_q, xL_38, ↓xS_38_q, xS_38, ↓xL_39_q, xL_39, ↓xS_39_q, xS_39, ↓xL_40_q, xL_40, ↓xS_40_q, xS_40, ↓xL_43_q, xL_43, ↓xS_43_q, xS_43, ↓xL_44_q, xL_44, ↓xS_44_q, xS_44, ↓xL_45_q, xL_45, ↓xS_45_q, xS_45, ↓xL_46_q, xL_46, ↓xS_46_q, xS_46, ↓xq_30_q, xq_30, ↓xq_42_q, xq_42, ↓xr_1_0_q, xr_1_0, ↓xr_1_1_q, xr_1_1, ↓xr_1_2_q, xr_1_2, ↓xr_1_3_q, xr_1_3, ↓xr_1_4_q, xr_1_4, ↓xh_1_0_q, xh_1_0, ↓xh_1_1_q, xh_1_1, ↓xh_1_2_q, xh_1_2, ↓xh_1_3_q, xh_1_3, ↓xh_1_4_q, xh_1_4, ↓xL_2_q, xL_2, ↓xL_3_q, xL_3, ↓xL_4_q, xL_4, ↓xL_5_q, xL_5, ↓xL_6_q, xL_6, ↓xr_10_0_q, xr_10_0, ↓xr_10_1_q, xr_10_1, ↓xr_10_2_q, xr_10_2, ↓xr_10_3_q, xr_10_3, ↓xr_10_4_q, xr_10_4, ↓xh_10_0_q, xh_10_0, ↓xh_10_1_q, xh_10_1, ↓xh_10_2_q, xh_10_2, ↓xh_10_3_q, xh_10_3, ↓xh_10_4_q, xh_10_4, ↓xL_11_q, xL_11, ↓xL_12_q, xL_12, ↓xL_13_q, xL_13, ↓xL_14_q, xL_14, ↓xL_15_q, xL_15, ↓xr_18_0_q, xr_18_0, ↓xr_18_1_q, xr_18_1, ↓xr_18_2_q, xr_18_2, ↓xr_18_3_q, xr_18_3, ↓xr_18_4_q, xr_18_4, ↓xh_18_0_q, xh_18_0, ↓xh_18_1_q, xh_18_1, ↓xh_18_2_q, xh_18_2, ↓xh_18_3_q, xh_18_3, ↓xh_18_4_q, xh_18_4, ↓xL_19_q, xL_19, ↓xL_20_q, xL_20, ↓xL_21_q, xL_21, ↓xL_22_q, xL_22, ↓xL_23_q, xL_23, xo_0, xo_7, xo_9, xo_16, xo_17, xo_25, xo_27, xo_29, xo_41, xo_1, xo_10, xo_18, uA_s, uA_n, uG_s, uG_n, ne_eq, Nat.reduceEqDiff, not_false_eq_true, cI_lt, cI_eq, ↓reduceIte, if_true, if_false, Nat.lt_irrefl, eq_self, Nat.reduceEqDiff, or_true, true_or, or_false, false_or, not_false_eq_true, not_true_eq_false, ce_5, zb_t, zb_f, hd0, ↓xc_row, ↓c1, e1, h2, z_k_l]
end
