/-! the face: what only looks -/
def thr (h : z_H) : z_H := (h.1, h.2.1.map (· + 1), h.2.2.1 + 1, h.2.2.2 + 6)
section
variable {g : z_G} {d : Nat} {f : Nat → Option z_C} {h : z_H} {q : Option Nat × Nat × Nat} {P : z_Res → Prop} {a x tx pa fo se ch cy hi sn pl : Nat} {ea : Int32} {S : GS}
theorem c_prop {w : Int32} {l : Nat} (hl : l < 100) : z_Ca g d 92 [.int w, .int (nI l)] h P = if okN w (l + 1) = true then P (.inr none, h) else P (.inl "java/lang/IllegalArgumentException", thr h) := by
  rw [zn_92]
  simp (disch := omega) only [ze_92_0, ze_92_1, ze_92_4, ze_92_5, ze_92_6, ze_92_9, ze_92_20, z_gI, z_gR, z_pF, z_aL, z_aS, z_gO, z_k_r, z_push_s, z_push_n, okS_0, okS_I, okS_R, okS_A, List.getElem?_cons_zero, List.getElem?_cons_succ, List.length_cons, List.length_nil, List.set_cons_zero, List.set_cons_succ, true_and, and_true, z_tI, z_tB, pk_mul, nI_add, cI_cl, cI_ix, arr_at, arr_upd, nar_0, nar_1, nar_b, Nat.reduceAdd, Nat.reduceLT, Nat.reduceMul, cI_lt, cI_eq, ↓reduceIte, if_true, if_false, Nat.lt_irrefl, eq_self, Nat.reduceEqDiff, or_true, true_or, or_false, not_false_eq_true, not_true_eq_false, ce_5, zb_t, zb_f]
  unfold okN
  by_cases e : w < nI 0
  · simp [e, thr]
  · obtain ⟨j, hj, rfl⟩ := nI_of e
    have e0 : (nI j < nI 0) = (j < 0) := cI_lt (by omega) (by omega)
    have e1 : (nI l < nI j) = (l < j) := cI_lt (by omega) (by omega)
    have e2 : (nI j < nI (l + 1)) = (j < l + 1) := cI_lt (by omega) (by omega)
    simp only [e0, e1, e2]
    by_cases e3 : l < j
    · have : ¬ j < l + 1 := by omega
      simp [e3, this, thr]
    · have : j < l + 1 := by omega
      simp [e3, this, thr]
theorem c_row (hX : gw f a S.w x = some (.inr (9, [.ref a, .ref tx, .ref pa, .ref fo, .ref se, .ref ch, .ref cy, .ref hi, .ref sn, .ref pl, .int ea]))) (v : Int32) : z_Ca g d 89 [.ref x, .int v] (gw f a S.w, q) P = if okN v S.R = true then P (.inr none, (gw f a S.w, q)) else P (.inl "java/lang/IndexOutOfBoundsException", thr (gw f a S.w, q)) := by
  rw [zn_89]
  simp (disch := omega) only [ze_89_0, ze_89_1, ze_89_4, ze_89_5, ze_89_6, ze_89_9, ze_89_12, ze_89_15, ze_89_26, z_gI, z_gR, z_pF, z_aL, z_aS, z_gO, z_k_r, z_push_s, z_push_n, okS_0, okS_I, okS_R, okS_A, List.getElem?_cons_zero, List.getElem?_cons_succ, List.length_cons, List.length_nil, List.set_cons_zero, List.set_cons_succ, true_and, and_true, z_tI, z_tB, pk_mul, nI_add, cI_cl, cI_ix, arr_at, arr_upd, nar_0, nar_1, nar_b, Nat.reduceAdd, Nat.reduceLT, Nat.reduceMul, pGW_A, pGW_V, pGW_B, pGW_r, pGW_c, pGW_R, pGW_C, pGW_F, pGW_G, pGW_N, pGS_c, pGS_gv, pGS_b, pGS_R, pGS_C, pGS_G, pGS_N, gw_0, gw_1, gw_2, gw_3, gw_4, gw_5, gw_u0, gw_u1, gw_u2, gw_u3, gw_u4, gw_u5, gs_A, gs_V, gs_B, gs_r, gs_c, gs_R, gs_C, gs_F, gs_G, gs_N, hX]
  unfold okN
  by_cases e : v < nI 0
  · simp [e, thr]
  · by_cases e2 : v < nI S.R
    · simp [e, e2]
    · simp [e, e2, thr]
theorem c_cell (hX : gw f a S.w x = some (.inr (9, [.ref a, .ref tx, .ref pa, .ref fo, .ref se, .ref ch, .ref cy, .ref hi, .ref sn, .ref pl, .int ea]))) (hd : 0 < d) (v w : Int32) : z_Ca g d 90 [.ref x, .int v, .int w] (gw f a S.w, q) P = if okN v S.R = true ∧ okN w S.C = true then P (.inr none, (gw f a S.w, q)) else P (.inl "java/lang/IndexOutOfBoundsException", thr (gw f a S.w, q)) := by
  rw [zn_90]
  simp (disch := omega) only [ze_90_0, ze_90_1, ze_90_2, ze_90_5, ze_90_6, ze_90_9, ze_90_10, ze_90_11, ze_90_14, ze_90_17, ze_90_20, ze_90_31, z_gI, z_gR, z_pF, z_aL, z_aS, z_gO, z_k_r, z_push_s, z_push_n, okS_0, okS_I, okS_R, okS_A, List.getElem?_cons_zero, List.getElem?_cons_succ, List.length_cons, List.length_nil, List.set_cons_zero, List.set_cons_succ, true_and, and_true, z_tI, z_tB, pk_mul, nI_add, cI_cl, cI_ix, arr_at, arr_upd, nar_0, nar_1, nar_b, Nat.reduceAdd, Nat.reduceLT, Nat.reduceMul, pGW_A, pGW_V, pGW_B, pGW_r, pGW_c, pGW_R, pGW_C, pGW_F, pGW_G, pGW_N, pGS_c, pGS_gv, pGS_b, pGS_R, pGS_C, pGS_G, pGS_N, gw_0, gw_1, gw_2, gw_3, gw_4, gw_5, gw_u0, gw_u1, gw_u2, gw_u3, gw_u4, gw_u5, gs_A, gs_V, gs_B, gs_r, gs_c, gs_R, gs_C, gs_F, gs_G, gs_N, hX, hd, c_row hX, z_k_r, z_k_l]
  by_cases e0 : okN v S.R = true
  · simp (disch := omega) only [e0, if_true, z_k_r, ze_90_0, ze_90_1, ze_90_2, ze_90_5, ze_90_6, ze_90_9, ze_90_10, ze_90_11, ze_90_14, ze_90_17, ze_90_20, ze_90_31, z_gI, z_gR, z_pF, z_aL, z_aS, z_gO, z_k_r, z_push_s, z_push_n, okS_0, okS_I, okS_R, okS_A, List.getElem?_cons_zero, List.getElem?_cons_succ, List.length_cons, List.length_nil, List.set_cons_zero, List.set_cons_succ, true_and, and_true, z_tI, z_tB, pk_mul, nI_add, cI_cl, cI_ix, arr_at, arr_upd, nar_0, nar_1, nar_b, Nat.reduceAdd, Nat.reduceLT, Nat.reduceMul, pGW_A, pGW_V, pGW_B, pGW_r, pGW_c, pGW_R, pGW_C, pGW_F, pGW_G, pGW_N, pGS_c, pGS_gv, pGS_b, pGS_R, pGS_C, pGS_G, pGS_N, gw_0, gw_1, gw_2, gw_3, gw_4, gw_5, gw_u0, gw_u1, gw_u2, gw_u3, gw_u4, gw_u5, gs_A, gs_V, gs_B, gs_r, gs_c, gs_R, gs_C, gs_F, gs_G, gs_N, hX, true_and]
    conv => rhs; unfold okN
    by_cases e : w < nI 0
    · simp [e, thr]
    · by_cases e2 : w < nI S.C
      · simp [e, e2]
      · simp [e, e2, thr]
  · simp only [e0, if_false, z_k_l, false_and, Bool.false_eq_true]
theorem c_symbol (hX : gw f a S.w x = some (.inr (9, [.ref a, .ref tx, .ref pa, .ref fo, .ref se, .ref ch, .ref cy, .ref hi, .ref sn, .ref pl, .int ea]))) (hd : 1 < d) (hR : S.R ≤ 5) (hC : S.C ≤ 5) {r j : Nat} (hr : r < S.R) (hj : j < S.C) : z_Ca g d 71 [.ref x, .int (nI r), .int (nI j)] (gw f a S.w, q) P = P (.inr (some (.int (ce (S.c (r * 5 + j))))), (gw f a S.w, q)) := by
  have hd0 : 0 < d := by omega
  have o1 := okN_nI (by omega) hr
  have o2 := okN_nI (by omega) hj
  rw [zn_71]
  simp (disch := omega) only [ze_71_0, ze_71_1, ze_71_2, ze_71_3, ze_71_6, ze_71_7, ze_71_10, ze_71_13, ze_71_14, ze_71_15, ze_71_16, ze_71_17, ze_71_18, ze_71_19, z_gI, z_gR, z_pF, z_aL, z_aS, z_gO, z_k_r, z_push_s, z_push_n, okS_0, okS_I, okS_R, okS_A, List.getElem?_cons_zero, List.getElem?_cons_succ, List.length_cons, List.length_nil, List.set_cons_zero, List.set_cons_succ, true_and, and_true, z_tI, z_tB, pk_mul, nI_add, cI_cl, cI_ix, arr_at, arr_upd, nar_0, nar_1, nar_b, Nat.reduceAdd, Nat.reduceLT, Nat.reduceMul, cI_lt, cI_eq, ↓reduceIte, if_true, if_false, Nat.lt_irrefl, eq_self, Nat.reduceEqDiff, or_true, true_or, or_false, not_false_eq_true, not_true_eq_false, ce_5, zb_t, zb_f, pGW_A, pGW_V, pGW_B, pGW_r, pGW_c, pGW_R, pGW_C, pGW_F, pGW_G, pGW_N, pGS_c, pGS_gv, pGS_b, pGS_R, pGS_C, pGS_G, pGS_N, gw_0, gw_1, gw_2, gw_3, gw_4, gw_5, gw_u0, gw_u1, gw_u2, gw_u3, gw_u4, gw_u5, gs_A, gs_V, gs_B, gs_r, gs_c, gs_R, gs_C, gs_F, gs_G, gs_N, hX, c_cell hX, o1, o2, hd0, and_self]
theorem c_isGiven (hX : gw f a S.w x = some (.inr (9, [.ref a, .ref tx, .ref pa, .ref fo, .ref se, .ref ch, .ref cy, .ref hi, .ref sn, .ref pl, .int ea]))) (hd : 1 < d) (hR : S.R ≤ 5) (hC : S.C ≤ 5) {r j : Nat} (hr : r < S.R) (hj : j < S.C) : z_Ca g d 72 [.ref x, .int (nI r), .int (nI j)] (gw f a S.w, q) P = P (.inr (some (.int (zb (S.gv (r * 5 + j))))), (gw f a S.w, q)) := by
  have hd0 : 0 < d := by omega
  have o1 := okN_nI (by omega) hr
  have o2 := okN_nI (by omega) hj
  rw [zn_72]
  simp (disch := omega) only [ze_72_0, ze_72_1, ze_72_2, ze_72_3, ze_72_6, ze_72_7, ze_72_10, ze_72_13, ze_72_14, ze_72_15, ze_72_16, ze_72_17, ze_72_18, ze_72_19, z_gI, z_gR, z_pF, z_aL, z_aS, z_gO, z_k_r, z_push_s, z_push_n, okS_0, okS_I, okS_R, okS_A, List.getElem?_cons_zero, List.getElem?_cons_succ, List.length_cons, List.length_nil, List.set_cons_zero, List.set_cons_succ, true_and, and_true, z_tI, z_tB, pk_mul, nI_add, cI_cl, cI_ix, arr_at, arr_upd, nar_0, nar_1, nar_b, Nat.reduceAdd, Nat.reduceLT, Nat.reduceMul, cI_lt, cI_eq, ↓reduceIte, if_true, if_false, Nat.lt_irrefl, eq_self, Nat.reduceEqDiff, or_true, true_or, or_false, not_false_eq_true, not_true_eq_false, ce_5, zb_t, zb_f, pGW_A, pGW_V, pGW_B, pGW_r, pGW_c, pGW_R, pGW_C, pGW_F, pGW_G, pGW_N, pGS_c, pGS_gv, pGS_b, pGS_R, pGS_C, pGS_G, pGS_N, gw_0, gw_1, gw_2, gw_3, gw_4, gw_5, gw_u0, gw_u1, gw_u2, gw_u3, gw_u4, gw_u5, gs_A, gs_V, gs_B, gs_r, gs_c, gs_R, gs_C, gs_F, gs_G, gs_N, hX, c_cell hX, o1, o2, hd0, and_self]
  cases S.gv (r * 5 + j) <;> simp [zb, cI_eq]
theorem c_candidates (hX : gw f a S.w x = some (.inr (9, [.ref a, .ref tx, .ref pa, .ref fo, .ref se, .ref ch, .ref cy, .ref hi, .ref sn, .ref pl, .int ea]))) (hd : 1 < d) (hc : ∀ k, S.c k ≤ 5) (hR : S.R ≤ 5) (hC : S.C ≤ 5) {r j : Nat} (hr : r < S.R) (hj : j < S.C) : z_Ca g d 73 [.ref x, .int (nI r), .int (nI j)] (gw f a S.w, q) P = P (.inr (some (.int (sS (S.cd r j)))), (gw f a S.w, q)) := by
  have hd0 : 0 < d := by omega
  have o1 := okN_nI (by omega) hr
  have o2 := okN_nI (by omega) hj
  rw [zn_73]
  simp (disch := omega) only [ze_73_0, ze_73_1, ze_73_2, ze_73_3, ze_73_6, ze_73_7, ze_73_10, ze_73_11, ze_73_12, ze_73_15, z_gI, z_gR, z_pF, z_aL, z_aS, z_gO, z_k_r, z_push_s, z_push_n, okS_0, okS_I, okS_R, okS_A, List.getElem?_cons_zero, List.getElem?_cons_succ, List.length_cons, List.length_nil, List.set_cons_zero, List.set_cons_succ, true_and, and_true, z_tI, z_tB, pk_mul, nI_add, cI_cl, cI_ix, arr_at, arr_upd, nar_0, nar_1, nar_b, Nat.reduceAdd, Nat.reduceLT, Nat.reduceMul, cI_lt, cI_eq, ↓reduceIte, if_true, if_false, Nat.lt_irrefl, eq_self, Nat.reduceEqDiff, or_true, true_or, or_false, not_false_eq_true, not_true_eq_false, ce_5, zb_t, zb_f, pGW_A, pGW_V, pGW_B, pGW_r, pGW_c, pGW_R, pGW_C, pGW_F, pGW_G, pGW_N, pGS_c, pGS_gv, pGS_b, pGS_R, pGS_C, pGS_G, pGS_N, gw_0, gw_1, gw_2, gw_3, gw_4, gw_5, gw_u0, gw_u1, gw_u2, gw_u3, gw_u4, gw_u5, gs_A, gs_V, gs_B, gs_r, gs_c, gs_R, gs_C, gs_F, gs_G, gs_N, hX, c_cell hX, o1, o2, hd0, and_self, s_cand hc hC]
theorem c_symbolBad (hX : gw f a S.w x = some (.inr (9, [.ref a, .ref tx, .ref pa, .ref fo, .ref se, .ref ch, .ref cy, .ref hi, .ref sn, .ref pl, .int ea]))) (hd : 1 < d) {v w : Int32} (hb : ¬ (okN v S.R = true ∧ okN w S.C = true)) : z_Ca g d 71 [.ref x, .int v, .int w] (gw f a S.w, q) P = P (.inl "java/lang/IndexOutOfBoundsException", thr (gw f a S.w, q)) := by
  have hd0 : 0 < d := by omega
  rw [zn_71]
  simp (disch := omega) only [ze_71_0, ze_71_1, ze_71_2, ze_71_3, ze_71_6, ze_71_7, ze_71_10, ze_71_13, ze_71_14, ze_71_15, ze_71_16, ze_71_17, ze_71_18, ze_71_19, z_gI, z_gR, z_pF, z_aL, z_aS, z_gO, z_k_r, z_push_s, z_push_n, okS_0, okS_I, okS_R, okS_A, List.getElem?_cons_zero, List.getElem?_cons_succ, List.length_cons, List.length_nil, List.set_cons_zero, List.set_cons_succ, true_and, and_true, z_tI, z_tB, pk_mul, nI_add, cI_cl, cI_ix, arr_at, arr_upd, nar_0, nar_1, nar_b, Nat.reduceAdd, Nat.reduceLT, Nat.reduceMul, cI_lt, cI_eq, ↓reduceIte, if_true, if_false, Nat.lt_irrefl, eq_self, Nat.reduceEqDiff, or_true, true_or, or_false, not_false_eq_true, not_true_eq_false, ce_5, zb_t, zb_f, pGW_A, pGW_V, pGW_B, pGW_r, pGW_c, pGW_R, pGW_C, pGW_F, pGW_G, pGW_N, pGS_c, pGS_gv, pGS_b, pGS_R, pGS_C, pGS_G, pGS_N, gw_0, gw_1, gw_2, gw_3, gw_4, gw_5, gw_u0, gw_u1, gw_u2, gw_u3, gw_u4, gw_u5, gs_A, gs_V, gs_B, gs_r, gs_c, gs_R, gs_C, gs_F, gs_G, gs_N, hX, c_cell hX, hd0, hb, z_k_l]
theorem c_isGivenBad (hX : gw f a S.w x = some (.inr (9, [.ref a, .ref tx, .ref pa, .ref fo, .ref se, .ref ch, .ref cy, .ref hi, .ref sn, .ref pl, .int ea]))) (hd : 1 < d) {v w : Int32} (hb : ¬ (okN v S.R = true ∧ okN w S.C = true)) : z_Ca g d 72 [.ref x, .int v, .int w] (gw f a S.w, q) P = P (.inl "java/lang/IndexOutOfBoundsException", thr (gw f a S.w, q)) := by
  have hd0 : 0 < d := by omega
  rw [zn_72]
  simp (disch := omega) only [ze_72_0, ze_72_1, ze_72_2, ze_72_3, ze_72_6, ze_72_7, ze_72_10, ze_72_13, ze_72_14, ze_72_15, ze_72_16, ze_72_17, ze_72_18, ze_72_19, z_gI, z_gR, z_pF, z_aL, z_aS, z_gO, z_k_r, z_push_s, z_push_n, okS_0, okS_I, okS_R, okS_A, List.getElem?_cons_zero, List.getElem?_cons_succ, List.length_cons, List.length_nil, List.set_cons_zero, List.set_cons_succ, true_and, and_true, z_tI, z_tB, pk_mul, nI_add, cI_cl, cI_ix, arr_at, arr_upd, nar_0, nar_1, nar_b, Nat.reduceAdd, Nat.reduceLT, Nat.reduceMul, cI_lt, cI_eq, ↓reduceIte, if_true, if_false, Nat.lt_irrefl, eq_self, Nat.reduceEqDiff, or_true, true_or, or_false, not_false_eq_true, not_true_eq_false, ce_5, zb_t, zb_f, pGW_A, pGW_V, pGW_B, pGW_r, pGW_c, pGW_R, pGW_C, pGW_F, pGW_G, pGW_N, pGS_c, pGS_gv, pGS_b, pGS_R, pGS_C, pGS_G, pGS_N, gw_0, gw_1, gw_2, gw_3, gw_4, gw_5, gw_u0, gw_u1, gw_u2, gw_u3, gw_u4, gw_u5, gs_A, gs_V, gs_B, gs_r, gs_c, gs_R, gs_C, gs_F, gs_G, gs_N, hX, c_cell hX, hd0, hb, z_k_l]
theorem c_candidatesBad (hX : gw f a S.w x = some (.inr (9, [.ref a, .ref tx, .ref pa, .ref fo, .ref se, .ref ch, .ref cy, .ref hi, .ref sn, .ref pl, .int ea]))) (hd : 1 < d) {v w : Int32} (hb : ¬ (okN v S.R = true ∧ okN w S.C = true)) : z_Ca g d 73 [.ref x, .int v, .int w] (gw f a S.w, q) P = P (.inl "java/lang/IndexOutOfBoundsException", thr (gw f a S.w, q)) := by
  have hd0 : 0 < d := by omega
  rw [zn_73]
  simp (disch := omega) only [ze_73_0, ze_73_1, ze_73_2, ze_73_3, ze_73_6, ze_73_7, ze_73_10, ze_73_11, ze_73_12, ze_73_15, z_gI, z_gR, z_pF, z_aL, z_aS, z_gO, z_k_r, z_push_s, z_push_n, okS_0, okS_I, okS_R, okS_A, List.getElem?_cons_zero, List.getElem?_cons_succ, List.length_cons, List.length_nil, List.set_cons_zero, List.set_cons_succ, true_and, and_true, z_tI, z_tB, pk_mul, nI_add, cI_cl, cI_ix, arr_at, arr_upd, nar_0, nar_1, nar_b, Nat.reduceAdd, Nat.reduceLT, Nat.reduceMul, cI_lt, cI_eq, ↓reduceIte, if_true, if_false, Nat.lt_irrefl, eq_self, Nat.reduceEqDiff, or_true, true_or, or_false, not_false_eq_true, not_true_eq_false, ce_5, zb_t, zb_f, pGW_A, pGW_V, pGW_B, pGW_r, pGW_c, pGW_R, pGW_C, pGW_F, pGW_G, pGW_N, pGS_c, pGS_gv, pGS_b, pGS_R, pGS_C, pGS_G, pGS_N, gw_0, gw_1, gw_2, gw_3, gw_4, gw_5, gw_u0, gw_u1, gw_u2, gw_u3, gw_u4, gw_u5, gs_A, gs_V, gs_B, gs_r, gs_c, gs_R, gs_C, gs_F, gs_G, gs_N, hX, c_cell hX, hd0, hb, z_k_l]
theorem c_forcedCells (hX : gw f a S.w x = some (.inr (9, [.ref a, .ref tx, .ref pa, .ref fo, .ref se, .ref ch, .ref cy, .ref hi, .ref sn, .ref pl, .int ea]))) (hF : gw f a S.w fo = some (.inr (2, [.ref a]))) (hd : 4 < d) (hc : ∀ k, S.c k ≤ 5) (hR : S.R ≤ 5) (hC : S.C ≤ 5) : z_Ca g d 74 [.ref x] (gw f a S.w, q) P = P (.inr (some (.int (nI (ct S.pf 0 25)))), (gw f a S.w, q)) := by
  have hd0 : 0 < d := by omega
  rw [zn_74]
  simp (disch := omega) only [ze_74_0, ze_74_1, ze_74_4, ze_74_7, z_gI, z_gR, z_pF, z_aL, z_aS, z_gO, z_k_r, z_push_s, z_push_n, okS_0, okS_I, okS_R, okS_A, List.getElem?_cons_zero, List.getElem?_cons_succ, List.length_cons, List.length_nil, List.set_cons_zero, List.set_cons_succ, true_and, and_true, z_tI, z_tB, pk_mul, nI_add, cI_cl, cI_ix, arr_at, arr_upd, nar_0, nar_1, nar_b, Nat.reduceAdd, Nat.reduceLT, Nat.reduceMul, cI_lt, cI_eq, ↓reduceIte, if_true, if_false, Nat.lt_irrefl, eq_self, Nat.reduceEqDiff, or_true, true_or, or_false, not_false_eq_true, not_true_eq_false, ce_5, zb_t, zb_f, pGW_A, pGW_V, pGW_B, pGW_r, pGW_c, pGW_R, pGW_C, pGW_F, pGW_G, pGW_N, pGS_c, pGS_gv, pGS_b, pGS_R, pGS_C, pGS_G, pGS_N, gw_0, gw_1, gw_2, gw_3, gw_4, gw_5, gw_u0, gw_u1, gw_u2, gw_u3, gw_u4, gw_u5, gs_A, gs_V, gs_B, gs_r, gs_c, gs_R, gs_C, gs_F, gs_G, gs_N, hX, hF, hd0, s_fcnt hF hc hC hR]
def fV (S : GS) (x : Int32) (w : Nat) : Int32 := match kf S.pf x 0 25 0 with
  | none => -1
  | some i => if w = 0 then nI (i / 5) else if w = 1 then nI (i - i / 5 * 5) else if w = 2 then nI (S.fs (i / 5) (i - i / 5 * 5)) else nI (S.rs (i / 5) (i - i / 5 * 5))
theorem kf_p {p : Nat → Bool} {x : Int32} : ∀ (k i n j : Nat), kf p x i k n = some j → p j = true ∧ i ≤ j ∧ j < i + k
  | 0, i, n, j, h => by cases h
  | k + 1, i, n, j, h => by
    unfold kf at h
    by_cases e : p i = true
    · rw [if_pos e] at h
      by_cases e2 : x = nI n
      · rw [if_pos e2] at h
        cases h
        exact ⟨e, by omega, by omega⟩
      · rw [if_neg e2] at h
        obtain ⟨h1, h2, h3⟩ := kf_p k (i + 1) (n + 1) j h
        exact ⟨h1, by omega, by omega⟩
    · rw [if_neg e] at h
      obtain ⟨h1, h2, h3⟩ := kf_p k (i + 1) n j h
      exact ⟨h1, by omega, by omega⟩
theorem on_m1 (i : Nat) (h : i < 2147483648) : (nI i = -1) = False := by
  refine eq_false fun e => ?_
  have h1 : ¬ nI i < 0 := nI_pos h
  rw [e] at h1
  exact h1 (by decide)
theorem cI_div {a b : Nat} (ha : a < 2147483648) (h0 : 0 < b) (hb : b < 2147483648) : nI a / nI b = nI (a / b) := pk_div ha h0 hb
theorem c_forced (hX : gw f a S.w x = some (.inr (9, [.ref a, .ref tx, .ref pa, .ref fo, .ref se, .ref ch, .ref cy, .ref hi, .ref sn, .ref pl, .int ea]))) (hF : gw f a S.w fo = some (.inr (2, [.ref a]))) (hd : 5 < d) (hc : ∀ k, S.c k ≤ 5) (hR : S.R ≤ 5) (hC : S.C ≤ 5) (v : Int32) {w : Nat} (hw : w < 4) : z_Ca g d 75 [.ref x, .int v, .int (nI w)] (gw f a S.w, q) P = P (.inr (some (.int (fV S v w))), (gw f a S.w, q)) := by
  have hd0 : 0 < d := by omega
  have o1 : okN (nI w) (3 + 1) = true := okN_nI (by omega) hw
  rw [zn_75]
  simp (disch := omega) only [ze_75_0, ze_75_1, ze_75_2, ze_75_5, ze_75_6, ze_75_9, ze_75_10, ze_75_13, ze_75_14, ze_75_15, ze_75_16, ze_75_19, ze_75_20, ze_75_21, ze_75_22, ze_75_23, ze_75_24, ze_75_26, ze_75_27, ze_75_28, ze_75_29, ze_75_31, ze_75_60, ze_75_62, ze_75_63, ze_75_65, ze_75_66, ze_75_67, ze_75_70, ze_75_72, ze_75_74, ze_75_77, ze_75_78, ze_75_79, ze_75_82, ze_75_84, ze_75_86, ze_75_89, z_gI, z_gR, z_pF, z_aL, z_aS, z_gO, z_k_r, z_push_s, z_push_n, okS_0, okS_I, okS_R, okS_A, List.getElem?_cons_zero, List.getElem?_cons_succ, List.length_cons, List.length_nil, List.set_cons_zero, List.set_cons_succ, true_and, and_true, z_tI, z_tB, pk_mul, nI_add, cI_cl, cI_ix, arr_at, arr_upd, nar_0, nar_1, nar_b, Nat.reduceAdd, Nat.reduceLT, Nat.reduceMul, cI_lt, cI_eq, ↓reduceIte, if_true, if_false, Nat.lt_irrefl, eq_self, Nat.reduceEqDiff, or_true, true_or, or_false, not_false_eq_true, not_true_eq_false, ce_5, zb_t, zb_f, pGW_A, pGW_V, pGW_B, pGW_r, pGW_c, pGW_R, pGW_C, pGW_F, pGW_G, pGW_N, pGS_c, pGS_gv, pGS_b, pGS_R, pGS_C, pGS_G, pGS_N, gw_0, gw_1, gw_2, gw_3, gw_4, gw_5, gw_u0, gw_u1, gw_u2, gw_u3, gw_u4, gw_u5, gs_A, gs_V, gs_B, gs_r, gs_c, gs_R, gs_C, gs_F, gs_G, gs_N, hX, hF, hd0, c_prop, o1, s_place hF hc hC hR]
  unfold fV
  cases e : kf S.pf v 0 25 0 with
  | none =>
    rw [show on none = -1 from rfl]
    simp (disch := omega) only [ze_75_0, ze_75_1, ze_75_2, ze_75_5, ze_75_6, ze_75_9, ze_75_10, ze_75_13, ze_75_14, ze_75_15, ze_75_16, ze_75_19, ze_75_20, ze_75_21, ze_75_22, ze_75_23, ze_75_24, ze_75_26, ze_75_27, ze_75_28, ze_75_29, ze_75_31, ze_75_60, ze_75_62, ze_75_63, ze_75_65, ze_75_66, ze_75_67, ze_75_70, ze_75_72, ze_75_74, ze_75_77, ze_75_78, ze_75_79, ze_75_82, ze_75_84, ze_75_86, ze_75_89, z_gI, z_gR, z_pF, z_aL, z_aS, z_gO, z_k_r, z_push_s, z_push_n, okS_0, okS_I, okS_R, okS_A, List.getElem?_cons_zero, List.getElem?_cons_succ, List.length_cons, List.length_nil, List.set_cons_zero, List.set_cons_succ, true_and, and_true, z_tI, z_tB, pk_mul, nI_add, cI_cl, cI_ix, arr_at, arr_upd, nar_0, nar_1, nar_b, Nat.reduceAdd, Nat.reduceLT, Nat.reduceMul, cI_lt, cI_eq, ↓reduceIte, if_true, if_false, Nat.lt_irrefl, eq_self, Nat.reduceEqDiff, or_true, true_or, or_false, not_false_eq_true, not_true_eq_false, ce_5, zb_t, zb_f]
  | some i =>
    obtain ⟨k1, k2, k3⟩ := kf_p _ _ _ _ e
    rw [show on (some i) = nI i from rfl]
    simp (disch := omega) only [ze_75_0, ze_75_1, ze_75_2, ze_75_5, ze_75_6, ze_75_9, ze_75_10, ze_75_13, ze_75_14, ze_75_15, ze_75_16, ze_75_19, ze_75_20, ze_75_21, ze_75_22, ze_75_23, ze_75_24, ze_75_26, ze_75_27, ze_75_28, ze_75_29, ze_75_31, ze_75_60, ze_75_62, ze_75_63, ze_75_65, ze_75_66, ze_75_67, ze_75_70, ze_75_72, ze_75_74, ze_75_77, ze_75_78, ze_75_79, ze_75_82, ze_75_84, ze_75_86, ze_75_89, z_gI, z_gR, z_pF, z_aL, z_aS, z_gO, z_k_r, z_push_s, z_push_n, okS_0, okS_I, okS_R, okS_A, List.getElem?_cons_zero, List.getElem?_cons_succ, List.length_cons, List.length_nil, List.set_cons_zero, List.set_cons_succ, true_and, and_true, z_tI, z_tB, pk_mul, nI_add, cI_cl, cI_ix, arr_at, arr_upd, nar_0, nar_1, nar_b, Nat.reduceAdd, Nat.reduceLT, Nat.reduceMul, cI_lt, cI_eq, ↓reduceIte, if_true, if_false, Nat.lt_irrefl, eq_self, Nat.reduceEqDiff, or_true, true_or, or_false, not_false_eq_true, not_true_eq_false, ce_5, zb_t, zb_f, on_m1, cI_div, cI_sub, Nat.reduceEqDiff]
    unfold GS.pf at k1
    simp only [Bool.and_eq_true, decide_eq_true_eq] at k1
    obtain ⟨⟨k4, k5⟩, k6⟩ := k1
    rw [show i % 5 = i - i / 5 * 5 by omega] at k5 k6
    have : w = 0 ∨ w = 1 ∨ w = 2 ∨ w = 3 := by omega
    rcases this with rfl | rfl | rfl | rfl
    · simp (disch := omega) only [ze_75_0, ze_75_1, ze_75_2, ze_75_5, ze_75_6, ze_75_9, ze_75_10, ze_75_13, ze_75_14, ze_75_15, ze_75_16, ze_75_19, ze_75_20, ze_75_21, ze_75_22, ze_75_23, ze_75_24, ze_75_26, ze_75_27, ze_75_28, ze_75_29, ze_75_31, ze_75_32_0, ze_75_32_1, ze_75_32_2, ze_75_32_3, ze_75_32_4, ze_75_32_5, ze_75_32_6, ze_75_32_7, ze_75_60, ze_75_62, ze_75_63, ze_75_65, ze_75_66, ze_75_67, ze_75_70, ze_75_72, ze_75_74, ze_75_77, ze_75_78, ze_75_79, ze_75_82, ze_75_84, ze_75_86, ze_75_89, z_gI, z_gR, z_pF, z_aL, z_aS, z_gO, z_k_r, z_push_s, z_push_n, okS_0, okS_I, okS_R, okS_A, List.getElem?_cons_zero, List.getElem?_cons_succ, List.length_cons, List.length_nil, List.set_cons_zero, List.set_cons_succ, true_and, and_true, z_tI, z_tB, pk_mul, nI_add, cI_cl, cI_ix, arr_at, arr_upd, nar_0, nar_1, nar_b, Nat.reduceAdd, Nat.reduceLT, Nat.reduceMul, cI_lt, cI_eq, ↓reduceIte, if_true, if_false, Nat.lt_irrefl, eq_self, Nat.reduceEqDiff, or_true, true_or, or_false, not_false_eq_true, not_true_eq_false, ce_5, zb_t, zb_f, hX, hF, hd0]
    · simp (disch := omega) only [ze_75_0, ze_75_1, ze_75_2, ze_75_5, ze_75_6, ze_75_9, ze_75_10, ze_75_13, ze_75_14, ze_75_15, ze_75_16, ze_75_19, ze_75_20, ze_75_21, ze_75_22, ze_75_23, ze_75_24, ze_75_26, ze_75_27, ze_75_28, ze_75_29, ze_75_31, ze_75_32_0, ze_75_32_1, ze_75_32_2, ze_75_32_3, ze_75_32_4, ze_75_32_5, ze_75_32_6, ze_75_32_7, ze_75_60, ze_75_62, ze_75_63, ze_75_65, ze_75_66, ze_75_67, ze_75_70, ze_75_72, ze_75_74, ze_75_77, ze_75_78, ze_75_79, ze_75_82, ze_75_84, ze_75_86, ze_75_89, z_gI, z_gR, z_pF, z_aL, z_aS, z_gO, z_k_r, z_push_s, z_push_n, okS_0, okS_I, okS_R, okS_A, List.getElem?_cons_zero, List.getElem?_cons_succ, List.length_cons, List.length_nil, List.set_cons_zero, List.set_cons_succ, true_and, and_true, z_tI, z_tB, pk_mul, nI_add, cI_cl, cI_ix, arr_at, arr_upd, nar_0, nar_1, nar_b, Nat.reduceAdd, Nat.reduceLT, Nat.reduceMul, cI_lt, cI_eq, ↓reduceIte, if_true, if_false, Nat.lt_irrefl, eq_self, Nat.reduceEqDiff, or_true, true_or, or_false, not_false_eq_true, not_true_eq_false, ce_5, zb_t, zb_f, hX, hF, hd0, Nat.reduceEqDiff]
    · simp (disch := first | omega | exact k6) only [ze_75_0, ze_75_1, ze_75_2, ze_75_5, ze_75_6, ze_75_9, ze_75_10, ze_75_13, ze_75_14, ze_75_15, ze_75_16, ze_75_19, ze_75_20, ze_75_21, ze_75_22, ze_75_23, ze_75_24, ze_75_26, ze_75_27, ze_75_28, ze_75_29, ze_75_31, ze_75_32_0, ze_75_32_1, ze_75_32_2, ze_75_32_3, ze_75_32_4, ze_75_32_5, ze_75_32_6, ze_75_32_7, ze_75_60, ze_75_62, ze_75_63, ze_75_65, ze_75_66, ze_75_67, ze_75_70, ze_75_72, ze_75_74, ze_75_77, ze_75_78, ze_75_79, ze_75_82, ze_75_84, ze_75_86, ze_75_89, z_gI, z_gR, z_pF, z_aL, z_aS, z_gO, z_k_r, z_push_s, z_push_n, okS_0, okS_I, okS_R, okS_A, List.getElem?_cons_zero, List.getElem?_cons_succ, List.length_cons, List.length_nil, List.set_cons_zero, List.set_cons_succ, true_and, and_true, z_tI, z_tB, pk_mul, nI_add, cI_cl, cI_ix, arr_at, arr_upd, nar_0, nar_1, nar_b, Nat.reduceAdd, Nat.reduceLT, Nat.reduceMul, cI_lt, cI_eq, ↓reduceIte, if_true, if_false, Nat.lt_irrefl, eq_self, Nat.reduceEqDiff, or_true, true_or, or_false, not_false_eq_true, not_true_eq_false, ce_5, zb_t, zb_f, hX, hF, hd0, Nat.reduceEqDiff, s_sym hF hc hC hR]
    · simp (disch := omega) only [ze_75_0, ze_75_1, ze_75_2, ze_75_5, ze_75_6, ze_75_9, ze_75_10, ze_75_13, ze_75_14, ze_75_15, ze_75_16, ze_75_19, ze_75_20, ze_75_21, ze_75_22, ze_75_23, ze_75_24, ze_75_26, ze_75_27, ze_75_28, ze_75_29, ze_75_31, ze_75_32_0, ze_75_32_1, ze_75_32_2, ze_75_32_3, ze_75_32_4, ze_75_32_5, ze_75_32_6, ze_75_32_7, ze_75_60, ze_75_62, ze_75_63, ze_75_65, ze_75_66, ze_75_67, ze_75_70, ze_75_72, ze_75_74, ze_75_77, ze_75_78, ze_75_79, ze_75_82, ze_75_84, ze_75_86, ze_75_89, z_gI, z_gR, z_pF, z_aL, z_aS, z_gO, z_k_r, z_push_s, z_push_n, okS_0, okS_I, okS_R, okS_A, List.getElem?_cons_zero, List.getElem?_cons_succ, List.length_cons, List.length_nil, List.set_cons_zero, List.set_cons_succ, true_and, and_true, z_tI, z_tB, pk_mul, nI_add, cI_cl, cI_ix, arr_at, arr_upd, nar_0, nar_1, nar_b, Nat.reduceAdd, Nat.reduceLT, Nat.reduceMul, cI_lt, cI_eq, ↓reduceIte, if_true, if_false, Nat.lt_irrefl, eq_self, Nat.reduceEqDiff, or_true, true_or, or_false, not_false_eq_true, not_true_eq_false, ce_5, zb_t, zb_f, hX, hF, hd0, Nat.reduceEqDiff, s_reason1 hF hc hC hR]
end
