/-! a Grid's methods in the class's cells -/
section
variable {g : z_G} {d : Nat} {f : Nat → Option z_C} {q : Option Nat × Nat × Nat} {P : z_Res → Prop} {B : Nat} {G : Nat → GS} {I : Nat → Int32} {A : Nat → Nat → Int32}
theorem x_cand (hc : ∀ k, (G 1).c k ≤ 5) (hC : (G 1).C ≤ 5) {r j : Nat} (hr : r < 5) (hj : j < 5) : z_Ca g d 34 [.ref (B + 1), .int (nI r), .int (nI j)] (xw f B G I A, q) P = P (.inr (some (.int (sS ((G 1).cd r j)))), (xw f B G I A, q)) := by
  have := s_cand (g := g) (d := d) (f := xw f B G I A) (q := q) (P := P) (a := B + 1) (S := G 1) hc hC hr hj
  rw [xj_1] at this
  exact this
theorem x_put {r j s : Nat} (hr : r < 5) (hj : j < 5) (hs : s < 5) (he : (G 1).c (r * 5 + j) = 5) : z_Ca g d 29 [.ref (B + 1), .int (nI r), .int (nI j), .int (nI s)] (xw f B G I A, q) P = P (.inr none, (xw f B (uG G 1 ((G 1).put r j s)) I A, q)) := by
  have := s_put (g := g) (d := d) (f := xw f B G I A) (q := q) (P := P) (a := B + 1) (S := G 1) hr hj hs he
  rw [xj_1, xk_1] at this
  exact this
theorem x_take {r j : Nat} (hr : r < 5) (hj : j < 5) (hs : (G 1).c (r * 5 + j) < 5) (h1 : ∀ i, i < 5 → (G 1).c (r * 5 + i) = (G 1).c (r * 5 + j) → i = j) (h2 : ∀ i, i < 5 → (G 1).c (i * 5 + j) = (G 1).c (r * 5 + j) → i = r) : z_Ca g d 30 [.ref (B + 1), .int (nI r), .int (nI j)] (xw f B G I A, q) P = P (.inr none, (xw f B (uG G 1 ((G 1).take r j)) I A, q)) := by
  have := s_take (g := g) (d := d) (f := xw f B G I A) (q := q) (P := P) (a := B + 1) (S := G 1) hr hj hs h1 h2
  rw [xj_1, xk_1] at this
  exact this
theorem x_isf {k s : Nat} (hk : k < 25) (hs : s < 5) : z_Ca g d 33 [.ref (B + 1), .int (nI k), .int (nI s)] (xw f B G I A, q) P = P (.inr (some (.int (zb ((G 1).b k s)))), (xw f B G I A, q)) := by
  have := s_isf (g := g) (d := d) (f := xw f B G I A) (q := q) (P := P) (a := B + 1) (S := G 1) hk hs
  rw [xj_1] at this
  exact this
theorem x_full (hg : GI (G 1)) {r : Nat} (hr : r < 5) : z_Ca g d 35 [.ref (B + 1), .int (nI r)] (xw f B G I A, q) P = P (.inr (some (.int (zb ((G 1).fl r)))), (xw f B G I A, q)) := by
  have := s_fullraw (g := g) (d := d) (f := xw f B G I A) (q := q) (P := P) (a := B + 1) (S := G 1) (fl_rU hg hr) hg.C5 hr
  rw [xj_1] at this
  exact this
theorem x_fullRows (hg : GI (G 1)) (hd : 0 < d) : z_Ca g d 36 [.ref (B + 1)] (xw f B G I A, q) P = P (.inr (some (.int (nI (ct (G 1).fl 0 (G 1).R)))), (xw f B G I A, q)) := by
  have hC := hg.C5
  have hR := hg.RC
  have := s_full (g := g) (d := d) (f := xw f B G I A) (q := q) (P := P) (a := B + 1) (S := G 1) (fun r hr => fl_rU hg (by omega)) hd (by omega) hC
  rw [xj_1] at this
  exact this
theorem x_dead (hg : GI (G 1)) (hd : 0 < d) : z_Ca g d 37 [.ref (B + 1)] (xw f B G I A, q) P = P (.inr (some (.int (nI (G 1).deadN))), (xw f B G I A, q)) := by
  have hC := hg.C5
  have hR := hg.RC
  have := s_dead (g := g) (d := d) (f := xw f B G I A) (q := q) (P := P) (a := B + 1) (S := G 1) hg.c5 hd (by omega) hC
  rw [xj_1] at this
  exact this
/-- cells that a rectangle's own are loaded from -/
theorem x_load {x : Nat} {t : Nat → Nat} (hg : GI (G 1)) (hd : 0 < d) (hf : xw f B G I A x = some (.inl (.int, 25, .inl (arr 25 fun k => ce (t k))))) (hx : x < B + 1 ∨ B + 1 + 6 ≤ x) (ht : GI ((G 1).sc t)) : z_Ca g d 27 [.ref (B + 1), .ref x] (xw f B G I A, q) P = P (.inr none, (xw f B (uG G 1 ((G 1).sc t)) I A, q)) := by
  have hC := hg.C5
  have hR := hg.RC
  have := s_load (g := g) (d := d) (f := xw f B G I A) (q := q) (P := P) (a := B + 1) (S := G 1) (G 1).w (fun _ _ _ _ => rfl) hd hf hx (fun k _ => ht.c5 k) (by omega) hC ht.out
  rw [xj_1, xk_1] at this
  exact this
theorem x_copy (hg : GI (G 10)) (hd : 1 < d) : z_Ca g d 26 [.ref (B + 1), .ref (B + 10)] (xw f B G I A, q) P = P (.inr none, (xw f B (uG G 1 (G 10)) I A, q)) := by
  have := s_copy (g := g) (d := d) (f := xw f B G I A) (q := q) (P := P) (a := B + 1) (a2 := B + 10) (S := G 10) (xH_10 f B G I A) (by omega) hg hd (G 1).w
  rw [xj_1, xk_1] at this
  exact this
/-- the same object's cells stored into an array of 25 -/
theorem x_storeAt {x : Nat} (hx : x < B + 1 ∨ B + 1 + 6 ≤ x) {t : Nat → Int32} (hf : xw f B G I A x = some (.inl (.int, 25, .inl (arr 25 t)))) : z_Ca g d 28 [.ref (B + 1), .ref x] (xw f B G I A, q) P = P (.inr none, (z_up (xw f B G I A) x (.inl (.int, 25, .inl (arr 25 fun k => ce ((G 1).c k)))), q)) := by
  have := s_store (g := g) (d := d) (f := xw f B G I A) (q := q) (P := P) (a := B + 1) (S := G 1) hx hf
  rw [xj_1] at this
  exact this
/-- one of the ten fillings, of the two -/
theorem xw_h {i : Nat} (h : i < 10) : xw f B G I A (B + 31 + i) = some (.inl (.int, 25, .inl (arr 25 (A (31 + i))))) := by
  exact match i, h with | 0, _ => xw_31 f B G I A | 1, _ => xw_32 f B G I A | 2, _ => xw_33 f B G I A | 3, _ => xw_34 f B G I A | 4, _ => xw_35 f B G I A | 5, _ => xw_36 f B G I A | 6, _ => xw_37 f B G I A | 7, _ => xw_38 f B G I A | 8, _ => xw_39 f B G I A | 9, _ => xw_40 f B G I A
theorem xe_h {i : Nat} (h : i < 10) (F : Nat → Int32) : z_up (xw f B G I A) (B + 31 + i) (.inl (.int, 25, .inl (arr 25 F))) = xw f B G I (uA A (31 + i) F) := by
  exact match i, h with | 0, _ => xe_31 f B G I A F | 1, _ => xe_32 f B G I A F | 2, _ => xe_33 f B G I A F | 3, _ => xe_34 f B G I A F | 4, _ => xe_35 f B G I A F | 5, _ => xe_36 f B G I A F | 6, _ => xe_37 f B G I A F | 7, _ => xe_38 f B G I A F | 8, _ => xe_39 f B G I A F | 9, _ => xe_40 f B G I A F
theorem xw_s {i : Nat} (h : i < 2) : xw f B G I A (B + 43 + i) = some (.inl (.int, 25, .inl (arr 25 (A (43 + i))))) := by
  exact match i, h with | 0, _ => xw_43 f B G I A | 1, _ => xw_44 f B G I A
theorem xe_s {i : Nat} (h : i < 2) (F : Nat → Int32) : z_up (xw f B G I A) (B + 43 + i) (.inl (.int, 25, .inl (arr 25 F))) = xw f B G I (uA A (43 + i) F) := by
  exact match i, h with | 0, _ => xe_43 f B G I A F | 1, _ => xe_44 f B G I A F
theorem xL_s {i k : Nat} (h : i < 2) (hk : k < 25) (K : Int32 → Prop) : z_aL (xw f B G I A) (B + 43 + i) z_tI (nI k) K = K (A (43 + i) k) := by
  simp (disch := omega) only [z_aL, xw_s h, z_tI, true_and, cI_ix, cI_cl, arr_at]
-- History
theorem h_clear : z_Ca g d 39 [.ref (B + 29)] (xw f B G I A, q) P = P (.inr none, (xw f B G (upd (upd I 12 (nI 0)) 13 (nI 0)) A, q)) := by
  rw [zn_39]
  simp (disch := omega) only [ze_39_0, ze_39_1, ze_39_2, ze_39_5, ze_39_6, ze_39_7, ze_39_10, z_k_r, z_push_s, z_push_n, okS_0, okS_I, okS_R, okS_A, List.getElem?_cons_zero, List.getElem?_cons_succ, List.length_cons, List.length_nil, List.set_cons_zero, List.set_cons_succ, true_and, and_true, z_tI, z_tB, pk_mul, nI_add, cI_cl, cI_ix, nar_0, nar_1, nar_b, Nat.reduceAdd, Nat.reduceLT, Nat.reduceMul, ↓xr_0_0, ↓xr_0_1, ↓xr_0_2, ↓xr_0_3, ↓xr_0_4, ↓xr_0_5, ↓xr_0_6, ↓xr_0_7, ↓xr_0_8, ↓xr_0_9, ↓xg_14, xp_14, xo_0, ↓xr_7_0, ↓xg_0, xp_0, ↓xg_1, xp_1, ↓xg_2, xp_2, ↓xg_3, xp_3, ↓xg_4, xp_4, ↓xg_5, xp_5, xo_7, ↓xr_9_0, ↓xr_9_1, ↓xg_6, xp_6, ↓xg_7, xp_7, xo_9, ↓xr_16_0, xo_16, ↓xr_17_0, ↓xr_17_1, ↓xr_17_2, ↓xg_8, xp_8, xo_17, ↓xr_25_0, ↓xr_25_1, ↓xg_9, xp_9, ↓xg_10, xp_10, xo_25, ↓xr_27_0, ↓xr_27_1, ↓xg_11, xp_11, xo_27, ↓xr_29_0, ↓xg_12, xp_12, ↓xg_13, xp_13, xo_29, ↓xr_41_0, ↓xr_41_1, xo_41, xL_8, xS_8, xL_24, xS_24, xL_26, xS_26, xL_28, xS_28, xL_31, xS_31, xL_32, xS_32, xL_33, xS_33, xL_34, xS_34, xL_35, xS_35, xL_36, xS_36, xL_37, xS_37, xL_38, xS_38, xL_39, xS_39, xL_40, xS_40, xL_43, xS_43, xL_44, xS_44, xL_45, xS_45, xL_46, xS_46, xq_30, xq_42, ↓xr_1_0, ↓xr_1_1, ↓xr_1_2, ↓xr_1_3, ↓xr_1_4, ↓xh_1_0, ↓xh_1_1, ↓xh_1_2, ↓xh_1_3, ↓xh_1_4, xo_1, xL_2, xL_3, xL_4, xL_5, xL_6, ↓xr_10_0, ↓xr_10_1, ↓xr_10_2, ↓xr_10_3, ↓xr_10_4, ↓xh_10_0, ↓xh_10_1, ↓xh_10_2, ↓xh_10_3, ↓xh_10_4, xo_10, xL_11, xL_12, xL_13, xL_14, xL_15, ↓xr_18_0, ↓xr_18_1, ↓xr_18_2, ↓xr_18_3, ↓xr_18_4, ↓xh_18_0, ↓xh_18_1, ↓xh_18_2, ↓xh_18_3, ↓xh_18_4, xo_18, xL_19, xL_20, xL_21, xL_22, xL_23, uA_s, uA_n, uG_s, uG_n, ne_eq, Nat.reduceEqDiff, not_false_eq_true]
theorem z_mod {a b : Nat} (ha : a < 2147483648) (hb : 0 < b ∧ b < 1000) : nI a - nI a / nI b * nI b = nI (a % b) := by
  have e := Nat.div_add_mod a b
  have e1 : a / b * b ≤ a := Nat.div_mul_le_self a b
  rw [cI_div (by omega) hb.1 (by omega), pk_mul, cI_sub e1]
  congr 1
  rw [Nat.mul_comm] at e1 ⊢
  omega
theorem h_record {nx cn : Nat} (hn : I 12 = nI nx) (hc : I 13 = nI cn) (hx : nx < 10) (hcn : cn ≤ 10) (hd : 0 < d) : z_Ca g d 40 [.ref (B + 29), .ref (B + 1)] (xw f B G I A, q) P = P (.inr none, (xw f B G (upd (upd I 12 (nI ((nx + 1) % 10))) 13 (nI (min (cn + 1) 10))) (uA A (31 + nx) fun k => ce ((G 1).c k)), q)) := by
  have l1 := fun P => x_storeAt (g := g) (d := d - 1) (f := f) (q := q) (P := P) (B := B) (G := G) (I := I) (A := A) (x := B + 31 + nx) (by omega) (xw_h hx)
  have hok : ∀ (x y : Int32) (a : Nat), z_okS 8 [.int y, .int x, .ref a] = true := fun x y a => by simp only [okS_I, okS_R, okS_0]
  rw [zn_40]
  simp (disch := first | omega | exact hok _ _ _) only [ze_40_0, ze_40_1, ze_40_2, ze_40_5, ze_40_6, ze_40_9, ze_40_10, ze_40_13, ze_40_14, ze_40_15, ze_40_18, ze_40_19, ze_40_20, ze_40_22, ze_40_23, ze_40_26, ze_40_27, ze_40_28, ze_40_31, ze_40_32, ze_40_33, ze_40_35, ze_40_38, ze_40_41, z_k_r, z_push_s, z_push_n, okS_0, okS_I, okS_R, okS_A, List.getElem?_cons_zero, List.getElem?_cons_succ, List.length_cons, List.length_nil, List.set_cons_zero, List.set_cons_succ, true_and, and_true, z_tI, z_tB, pk_mul, nI_add, cI_cl, cI_ix, nar_0, nar_1, nar_b, Nat.reduceAdd, Nat.reduceLT, Nat.reduceMul, ↓xr_0_0, ↓xr_0_1, ↓xr_0_2, ↓xr_0_3, ↓xr_0_4, ↓xr_0_5, ↓xr_0_6, ↓xr_0_7, ↓xr_0_8, ↓xr_0_9, ↓xg_14, xp_14, xo_0, ↓xr_7_0, ↓xg_0, xp_0, ↓xg_1, xp_1, ↓xg_2, xp_2, ↓xg_3, xp_3, ↓xg_4, xp_4, ↓xg_5, xp_5, xo_7, ↓xr_9_0, ↓xr_9_1, ↓xg_6, xp_6, ↓xg_7, xp_7, xo_9, ↓xr_16_0, xo_16, ↓xr_17_0, ↓xr_17_1, ↓xr_17_2, ↓xg_8, xp_8, xo_17, ↓xr_25_0, ↓xr_25_1, ↓xg_9, xp_9, ↓xg_10, xp_10, xo_25, ↓xr_27_0, ↓xr_27_1, ↓xg_11, xp_11, xo_27, ↓xr_29_0, ↓xg_12, xp_12, ↓xg_13, xp_13, xo_29, ↓xr_41_0, ↓xr_41_1, xo_41, xL_8, xS_8, xL_24, xS_24, xL_26, xS_26, xL_28, xS_28, xL_31, xS_31, xL_32, xS_32, xL_33, xS_33, xL_34, xS_34, xL_35, xS_35, xL_36, xS_36, xL_37, xS_37, xL_38, xS_38, xL_39, xS_39, xL_40, xS_40, xL_43, xS_43, xL_44, xS_44, xL_45, xS_45, xL_46, xS_46, xq_30, xq_42, ↓xr_1_0, ↓xr_1_1, ↓xr_1_2, ↓xr_1_3, ↓xr_1_4, ↓xh_1_0, ↓xh_1_1, ↓xh_1_2, ↓xh_1_3, ↓xh_1_4, xo_1, xL_2, xL_3, xL_4, xL_5, xL_6, ↓xr_10_0, ↓xr_10_1, ↓xr_10_2, ↓xr_10_3, ↓xr_10_4, ↓xh_10_0, ↓xh_10_1, ↓xh_10_2, ↓xh_10_3, ↓xh_10_4, xo_10, xL_11, xL_12, xL_13, xL_14, xL_15, ↓xr_18_0, ↓xr_18_1, ↓xr_18_2, ↓xr_18_3, ↓xr_18_4, ↓xh_18_0, ↓xh_18_1, ↓xh_18_2, ↓xh_18_3, ↓xh_18_4, xo_18, xL_19, xL_20, xL_21, xL_22, xL_23, uA_s, uA_n, uG_s, uG_n, ne_eq, Nat.reduceEqDiff, not_false_eq_true, cI_lt, cI_eq, ↓reduceIte, if_true, if_false, Nat.lt_irrefl, eq_self, Nat.reduceEqDiff, or_true, true_or, or_false, false_or, not_false_eq_true, not_true_eq_false, ce_5, zb_t, zb_f, hn, hd, hx, l1, xe_h hx, z_mod, upd_ne, hc]
  have e : (if 10 < cn + 1 then nI 10 else nI (cn + 1)) = nI (min (cn + 1) 10) := by
    split
    · congr 1; omega
    · congr 1; omega
  rw [← e]
-- Snapshots
theorem n_clear : z_Ca g d 52 [.ref (B + 41)] (xw f B G I A, q) P = P (.inr none, (xw f B G I (uA A 45 fun _ => nI 0), q)) := by
  have e : upd (upd (A 45) 0 (nI 0)) 1 (nI 0) = upd (upd (A 45) 0 (nI 0)) 1 (nI 0) := rfl
  rw [zn_52]
  simp (disch := omega) only [ze_52_0, ze_52_1, ze_52_3, ze_52_4, ze_52_7, ze_52_8, ze_52_11, ze_52_12, ze_52_13, ze_52_14, ze_52_17, ze_52_20, z_k_r, z_push_s, z_push_n, okS_0, okS_I, okS_R, okS_A, List.getElem?_cons_zero, List.getElem?_cons_succ, List.length_cons, List.length_nil, List.set_cons_zero, List.set_cons_succ, true_and, and_true, z_tI, z_tB, pk_mul, nI_add, cI_cl, cI_ix, nar_0, nar_1, nar_b, Nat.reduceAdd, Nat.reduceLT, Nat.reduceMul, ↓xr_0_0, ↓xr_0_1, ↓xr_0_2, ↓xr_0_3, ↓xr_0_4, ↓xr_0_5, ↓xr_0_6, ↓xr_0_7, ↓xr_0_8, ↓xr_0_9, ↓xg_14, xp_14, xo_0, ↓xr_7_0, ↓xg_0, xp_0, ↓xg_1, xp_1, ↓xg_2, xp_2, ↓xg_3, xp_3, ↓xg_4, xp_4, ↓xg_5, xp_5, xo_7, ↓xr_9_0, ↓xr_9_1, ↓xg_6, xp_6, ↓xg_7, xp_7, xo_9, ↓xr_16_0, xo_16, ↓xr_17_0, ↓xr_17_1, ↓xr_17_2, ↓xg_8, xp_8, xo_17, ↓xr_25_0, ↓xr_25_1, ↓xg_9, xp_9, ↓xg_10, xp_10, xo_25, ↓xr_27_0, ↓xr_27_1, ↓xg_11, xp_11, xo_27, ↓xr_29_0, ↓xg_12, xp_12, ↓xg_13, xp_13, xo_29, ↓xr_41_0, ↓xr_41_1, xo_41, xL_8, xS_8, xL_24, xS_24, xL_26, xS_26, xL_28, xS_28, xL_31, xS_31, xL_32, xS_32, xL_33, xS_33, xL_34, xS_34, xL_35, xS_35, xL_36, xS_36, xL_37, xS_37, xL_38, xS_38, xL_39, xS_39, xL_40, xS_40, xL_43, xS_43, xL_44, xS_44, xL_45, xS_45, xL_46, xS_46, xq_30, xq_42, ↓xr_1_0, ↓xr_1_1, ↓xr_1_2, ↓xr_1_3, ↓xr_1_4, ↓xh_1_0, ↓xh_1_1, ↓xh_1_2, ↓xh_1_3, ↓xh_1_4, xo_1, xL_2, xL_3, xL_4, xL_5, xL_6, ↓xr_10_0, ↓xr_10_1, ↓xr_10_2, ↓xr_10_3, ↓xr_10_4, ↓xh_10_0, ↓xh_10_1, ↓xh_10_2, ↓xh_10_3, ↓xh_10_4, xo_10, xL_11, xL_12, xL_13, xL_14, xL_15, ↓xr_18_0, ↓xr_18_1, ↓xr_18_2, ↓xr_18_3, ↓xr_18_4, ↓xh_18_0, ↓xh_18_1, ↓xh_18_2, ↓xh_18_3, ↓xh_18_4, xo_18, xL_19, xL_20, xL_21, xL_22, xL_23, uA_s, uA_n, uG_s, uG_n, ne_eq, Nat.reduceEqDiff, not_false_eq_true]
  rw [ze_52_2]
  simp (disch := omega) only [ze_52_0, ze_52_1, ze_52_3, ze_52_4, ze_52_7, ze_52_8, ze_52_11, ze_52_12, ze_52_13, ze_52_14, ze_52_17, ze_52_20, z_k_r, z_push_s, z_push_n, okS_0, okS_I, okS_R, okS_A, List.getElem?_cons_zero, List.getElem?_cons_succ, List.length_cons, List.length_nil, List.set_cons_zero, List.set_cons_succ, true_and, and_true, z_tI, z_tB, pk_mul, nI_add, cI_cl, cI_ix, nar_0, nar_1, nar_b, Nat.reduceAdd, Nat.reduceLT, Nat.reduceMul, ↓xr_0_0, ↓xr_0_1, ↓xr_0_2, ↓xr_0_3, ↓xr_0_4, ↓xr_0_5, ↓xr_0_6, ↓xr_0_7, ↓xr_0_8, ↓xr_0_9, ↓xg_14, xp_14, xo_0, ↓xr_7_0, ↓xg_0, xp_0, ↓xg_1, xp_1, ↓xg_2, xp_2, ↓xg_3, xp_3, ↓xg_4, xp_4, ↓xg_5, xp_5, xo_7, ↓xr_9_0, ↓xr_9_1, ↓xg_6, xp_6, ↓xg_7, xp_7, xo_9, ↓xr_16_0, xo_16, ↓xr_17_0, ↓xr_17_1, ↓xr_17_2, ↓xg_8, xp_8, xo_17, ↓xr_25_0, ↓xr_25_1, ↓xg_9, xp_9, ↓xg_10, xp_10, xo_25, ↓xr_27_0, ↓xr_27_1, ↓xg_11, xp_11, xo_27, ↓xr_29_0, ↓xg_12, xp_12, ↓xg_13, xp_13, xo_29, ↓xr_41_0, ↓xr_41_1, xo_41, xL_8, xS_8, xL_24, xS_24, xL_26, xS_26, xL_28, xS_28, xL_31, xS_31, xL_32, xS_32, xL_33, xS_33, xL_34, xS_34, xL_35, xS_35, xL_36, xS_36, xL_37, xS_37, xL_38, xS_38, xL_39, xS_39, xL_40, xS_40, xL_43, xS_43, xL_44, xS_44, xL_45, xS_45, xL_46, xS_46, xq_30, xq_42, ↓xr_1_0, ↓xr_1_1, ↓xr_1_2, ↓xr_1_3, ↓xr_1_4, ↓xh_1_0, ↓xh_1_1, ↓xh_1_2, ↓xh_1_3, ↓xh_1_4, xo_1, xL_2, xL_3, xL_4, xL_5, xL_6, ↓xr_10_0, ↓xr_10_1, ↓xr_10_2, ↓xr_10_3, ↓xr_10_4, ↓xh_10_0, ↓xh_10_1, ↓xh_10_2, ↓xh_10_3, ↓xh_10_4, xo_10, xL_11, xL_12, xL_13, xL_14, xL_15, ↓xr_18_0, ↓xr_18_1, ↓xr_18_2, ↓xr_18_3, ↓xr_18_4, ↓xh_18_0, ↓xh_18_1, ↓xh_18_2, ↓xh_18_3, ↓xh_18_4, xo_18, xL_19, xL_20, xL_21, xL_22, xL_23, uA_s, uA_n, uG_s, uG_n, ne_eq, Nat.reduceEqDiff, not_false_eq_true, cI_lt, cI_eq, ↓reduceIte, if_true, if_false, Nat.lt_irrefl, eq_self, Nat.reduceEqDiff, or_true, true_or, or_false, false_or, not_false_eq_true, not_true_eq_false, ce_5, zb_t, zb_f]
  rw [ze_52_2]
  simp (disch := omega) only [ze_52_0, ze_52_1, ze_52_3, ze_52_4, ze_52_7, ze_52_8, ze_52_11, ze_52_12, ze_52_13, ze_52_14, ze_52_17, ze_52_20, z_k_r, z_push_s, z_push_n, okS_0, okS_I, okS_R, okS_A, List.getElem?_cons_zero, List.getElem?_cons_succ, List.length_cons, List.length_nil, List.set_cons_zero, List.set_cons_succ, true_and, and_true, z_tI, z_tB, pk_mul, nI_add, cI_cl, cI_ix, nar_0, nar_1, nar_b, Nat.reduceAdd, Nat.reduceLT, Nat.reduceMul, ↓xr_0_0, ↓xr_0_1, ↓xr_0_2, ↓xr_0_3, ↓xr_0_4, ↓xr_0_5, ↓xr_0_6, ↓xr_0_7, ↓xr_0_8, ↓xr_0_9, ↓xg_14, xp_14, xo_0, ↓xr_7_0, ↓xg_0, xp_0, ↓xg_1, xp_1, ↓xg_2, xp_2, ↓xg_3, xp_3, ↓xg_4, xp_4, ↓xg_5, xp_5, xo_7, ↓xr_9_0, ↓xr_9_1, ↓xg_6, xp_6, ↓xg_7, xp_7, xo_9, ↓xr_16_0, xo_16, ↓xr_17_0, ↓xr_17_1, ↓xr_17_2, ↓xg_8, xp_8, xo_17, ↓xr_25_0, ↓xr_25_1, ↓xg_9, xp_9, ↓xg_10, xp_10, xo_25, ↓xr_27_0, ↓xr_27_1, ↓xg_11, xp_11, xo_27, ↓xr_29_0, ↓xg_12, xp_12, ↓xg_13, xp_13, xo_29, ↓xr_41_0, ↓xr_41_1, xo_41, xL_8, xS_8, xL_24, xS_24, xL_26, xS_26, xL_28, xS_28, xL_31, xS_31, xL_32, xS_32, xL_33, xS_33, xL_34, xS_34, xL_35, xS_35, xL_36, xS_36, xL_37, xS_37, xL_38, xS_38, xL_39, xS_39, xL_40, xS_40, xL_43, xS_43, xL_44, xS_44, xL_45, xS_45, xL_46, xS_46, xq_30, xq_42, ↓xr_1_0, ↓xr_1_1, ↓xr_1_2, ↓xr_1_3, ↓xr_1_4, ↓xh_1_0, ↓xh_1_1, ↓xh_1_2, ↓xh_1_3, ↓xh_1_4, xo_1, xL_2, xL_3, xL_4, xL_5, xL_6, ↓xr_10_0, ↓xr_10_1, ↓xr_10_2, ↓xr_10_3, ↓xr_10_4, ↓xh_10_0, ↓xh_10_1, ↓xh_10_2, ↓xh_10_3, ↓xh_10_4, xo_10, xL_11, xL_12, xL_13, xL_14, xL_15, ↓xr_18_0, ↓xr_18_1, ↓xr_18_2, ↓xr_18_3, ↓xr_18_4, ↓xh_18_0, ↓xh_18_1, ↓xh_18_2, ↓xh_18_3, ↓xh_18_4, xo_18, xL_19, xL_20, xL_21, xL_22, xL_23, uA_s, uA_n, uG_s, uG_n, ne_eq, Nat.reduceEqDiff, not_false_eq_true, cI_lt, cI_eq, ↓reduceIte, if_true, if_false, Nat.lt_irrefl, eq_self, Nat.reduceEqDiff, or_true, true_or, or_false, false_or, not_false_eq_true, not_true_eq_false, ce_5, zb_t, zb_f, uA_uA]
  rw [ze_52_2]
  simp (disch := omega) only [ze_52_0, ze_52_1, ze_52_3, ze_52_4, ze_52_7, ze_52_8, ze_52_11, ze_52_12, ze_52_13, ze_52_14, ze_52_17, ze_52_20, z_k_r, z_push_s, z_push_n, okS_0, okS_I, okS_R, okS_A, List.getElem?_cons_zero, List.getElem?_cons_succ, List.length_cons, List.length_nil, List.set_cons_zero, List.set_cons_succ, true_and, and_true, z_tI, z_tB, pk_mul, nI_add, cI_cl, cI_ix, nar_0, nar_1, nar_b, Nat.reduceAdd, Nat.reduceLT, Nat.reduceMul, ↓xr_0_0, ↓xr_0_1, ↓xr_0_2, ↓xr_0_3, ↓xr_0_4, ↓xr_0_5, ↓xr_0_6, ↓xr_0_7, ↓xr_0_8, ↓xr_0_9, ↓xg_14, xp_14, xo_0, ↓xr_7_0, ↓xg_0, xp_0, ↓xg_1, xp_1, ↓xg_2, xp_2, ↓xg_3, xp_3, ↓xg_4, xp_4, ↓xg_5, xp_5, xo_7, ↓xr_9_0, ↓xr_9_1, ↓xg_6, xp_6, ↓xg_7, xp_7, xo_9, ↓xr_16_0, xo_16, ↓xr_17_0, ↓xr_17_1, ↓xr_17_2, ↓xg_8, xp_8, xo_17, ↓xr_25_0, ↓xr_25_1, ↓xg_9, xp_9, ↓xg_10, xp_10, xo_25, ↓xr_27_0, ↓xr_27_1, ↓xg_11, xp_11, xo_27, ↓xr_29_0, ↓xg_12, xp_12, ↓xg_13, xp_13, xo_29, ↓xr_41_0, ↓xr_41_1, xo_41, xL_8, xS_8, xL_24, xS_24, xL_26, xS_26, xL_28, xS_28, xL_31, xS_31, xL_32, xS_32, xL_33, xS_33, xL_34, xS_34, xL_35, xS_35, xL_36, xS_36, xL_37, xS_37, xL_38, xS_38, xL_39, xS_39, xL_40, xS_40, xL_43, xS_43, xL_44, xS_44, xL_45, xS_45, xL_46, xS_46, xq_30, xq_42, ↓xr_1_0, ↓xr_1_1, ↓xr_1_2, ↓xr_1_3, ↓xr_1_4, ↓xh_1_0, ↓xh_1_1, ↓xh_1_2, ↓xh_1_3, ↓xh_1_4, xo_1, xL_2, xL_3, xL_4, xL_5, xL_6, ↓xr_10_0, ↓xr_10_1, ↓xr_10_2, ↓xr_10_3, ↓xr_10_4, ↓xh_10_0, ↓xh_10_1, ↓xh_10_2, ↓xh_10_3, ↓xh_10_4, xo_10, xL_11, xL_12, xL_13, xL_14, xL_15, ↓xr_18_0, ↓xr_18_1, ↓xr_18_2, ↓xr_18_3, ↓xr_18_4, ↓xh_18_0, ↓xh_18_1, ↓xh_18_2, ↓xh_18_3, ↓xh_18_4, xo_18, xL_19, xL_20, xL_21, xL_22, xL_23, uA_s, uA_n, uG_s, uG_n, ne_eq, Nat.reduceEqDiff, not_false_eq_true, cI_lt, cI_eq, ↓reduceIte, if_true, if_false, Nat.lt_irrefl, eq_self, Nat.reduceEqDiff, or_true, true_or, or_false, false_or, not_false_eq_true, not_true_eq_false, ce_5, zb_t, zb_f, uA_uA]
  rw [xc_45 f B G I A (F' := fun _ => nI 0)]
  intro k hk
  unfold upd
  split
  · rfl
  · rw [if_pos (by omega)]
/-- cells that are not as in a snapshot -/
def df (c t : Nat → Nat) (k : Nat) : Bool := !decide (c k = t k)
end
