/-! the reference's small methods -/
theorem zb_t : zb true = nI 1 := rfl
theorem zb_f : zb false = nI 0 := rfl
def wi (x a b : Int32) : Bool := !decide (x < a) && !decide (b < x)
def okN (x : Int32) (n : Nat) : Bool := !decide (x < nI 0) && decide (x < nI n)
theorem okN_ex {x : Int32} {n : Nat} (hn : n < 2147483648) (h : okN x n = true) : ∃ r, r < n ∧ x = nI r := by
  unfold okN at h
  simp only [Bool.and_eq_true, Bool.not_eq_true', decide_eq_false_iff_not, decide_eq_true_eq] at h
  obtain ⟨j, h1, h2⟩ := nI_of h.1
  subst h2
  have := h.2
  rw [cI_lt h1 hn] at this
  exact ⟨j, this, rfl⟩
theorem okN_nI {r n : Nat} (hn : n < 2147483648) (h : r < n) : okN (nI r) n = true := by
  unfold okN
  rw [decide_eq_false (by rw [cI_lt (by omega) (by omega)]; omega), decide_eq_true (by rw [cI_lt (by omega) hn]; exact h)]
  rfl
theorem upd_upd (I : Nat → Int32) (k : Nat) (x y : Int32) : upd (upd I k x) k y = upd I k y := by
  funext j
  unfold upd
  split <;> rfl
theorem upd_eqI (I : Nat → Int32) (k : Nat) : upd I k (I k) = I := by
  funext j
  unfold upd
  split
  · next e => rw [e]
  · rfl
section
variable {g : z_G} {d : Nat} {f : Nat → Option z_C} {h : z_H} {q : Option Nat × Nat × Nat} {P : z_Res → Prop} {m : Nat} {I : Nat → Int32} {A : Nat → Nat → Int32} {S : GS}
theorem m_within (x a b : Int32) : z_Ca g d 122 [.int x, .int a, .int b] h P = P (.inr (some (.int (zb (wi x a b)))), h) := by
  rw [zn_122]
  simp (disch := omega) only [ze_122_0, ze_122_1, ze_122_2, ze_122_5, ze_122_6, ze_122_7, ze_122_10, ze_122_11, ze_122_14, ze_122_15, z_k_r, z_push_s, z_push_n, okS_0, okS_I, okS_R, okS_A, List.getElem?_cons_zero, List.getElem?_cons_succ, List.length_cons, List.length_nil, List.set_cons_zero, List.set_cons_succ, true_and, and_true, z_tI, z_tB, pk_mul, nI_add, cI_cl, cI_ix, nar_0, nar_1, nar_b, Nat.reduceAdd, Nat.reduceLT, Nat.reduceMul, cI_lt, cI_eq, if_true, if_false, Nat.lt_irrefl, eq_self, Nat.reduceEqDiff, or_true, true_or, or_false, false_or, not_false_eq_true, not_true_eq_false, ce_5, zb_t, zb_f]
  unfold wi
  by_cases e : x < a
  · simp [e, zb, cI_eq]
  · by_cases e2 : b < x
    · simp [e, e2, zb, cI_eq]
    · simp [e, e2, zb, cI_eq]
theorem m_throws (p : Bool) {e : Nat} (he : 0 < e ∧ e < 100) (h0 : I 0 = nI 0) : z_Ca g d 123 [.ref m, .int (zb p), .int (nI e)] (mw f m I A, q) P = P (.inr (some (.int (zb p))), (mw f m (upd I 0 (if p = true then nI e else nI 0)) A, q)) := by
  rw [zn_123]
  have e0 : ¬ e = 0 := by omega
  simp (disch := omega) only [ze_123_0, ze_123_1, ze_123_4, ze_123_7, ze_123_8, ze_123_11, ze_123_12, ze_123_13, ze_123_16, ze_123_17, ze_123_20, ze_123_23, ze_123_24, ze_123_27, ze_123_28, z_k_r, z_push_s, z_push_n, okS_0, okS_I, okS_R, okS_A, List.getElem?_cons_zero, List.getElem?_cons_succ, List.length_cons, List.length_nil, List.set_cons_zero, List.set_cons_succ, true_and, and_true, z_tI, z_tB, pk_mul, nI_add, cI_cl, cI_ix, nar_0, nar_1, nar_b, Nat.reduceAdd, Nat.reduceLT, Nat.reduceMul, mg_0, mg_1, mg_2, mg_3, mg_4, mg_5, mg_6, mg_7, mg_8, mg_9, mg_10, mg_11, mg_12, mg_13, mg_14, mg_15, mg_16, mg_17, mg_18, mg_19, mg_20, mg_21, mg_22, mg_23, mg_24, mg_25, mg_26, mg_27, mg_28, mp_0, mp_1, mp_2, mp_3, mp_4, mp_5, mp_6, mp_13, mp_14, mp_15, mp_16, mp_17, mp_18, mp_19, mp_20, mp_21, mp_23, mL_1, mL_2, mL_3, mL_4, mL_5, mL_6, mL_7, mL_8, mL_9, mL_10, mL_11, mL_12, mS_1, mS_2, mS_3, mS_4, mS_5, mS_6, mS_7, mS_8, mS_9, mS_10, mS_11, mS_12, m_gO, uA_s, uA_n, h0, zb_0, cI_eq, eq_self, if_true, if_false]
  cases p
  · simp (disch := omega) only [ze_123_0, ze_123_1, ze_123_4, ze_123_7, ze_123_8, ze_123_11, ze_123_12, ze_123_13, ze_123_16, ze_123_17, ze_123_20, ze_123_23, ze_123_24, ze_123_27, ze_123_28, z_k_r, z_push_s, z_push_n, okS_0, okS_I, okS_R, okS_A, List.getElem?_cons_zero, List.getElem?_cons_succ, List.length_cons, List.length_nil, List.set_cons_zero, List.set_cons_succ, true_and, and_true, z_tI, z_tB, pk_mul, nI_add, cI_cl, cI_ix, nar_0, nar_1, nar_b, Nat.reduceAdd, Nat.reduceLT, Nat.reduceMul, mg_0, mg_1, mg_2, mg_3, mg_4, mg_5, mg_6, mg_7, mg_8, mg_9, mg_10, mg_11, mg_12, mg_13, mg_14, mg_15, mg_16, mg_17, mg_18, mg_19, mg_20, mg_21, mg_22, mg_23, mg_24, mg_25, mg_26, mg_27, mg_28, mp_0, mp_1, mp_2, mp_3, mp_4, mp_5, mp_6, mp_13, mp_14, mp_15, mp_16, mp_17, mp_18, mp_19, mp_20, mp_21, mp_23, mL_1, mL_2, mL_3, mL_4, mL_5, mL_6, mL_7, mL_8, mL_9, mL_10, mL_11, mL_12, mS_1, mS_2, mS_3, mS_4, mS_5, mS_6, mS_7, mS_8, mS_9, mS_10, mS_11, mS_12, m_gO, uA_s, uA_n, cI_lt, cI_eq, if_true, if_false, Nat.lt_irrefl, eq_self, Nat.reduceEqDiff, or_true, true_or, or_false, false_or, not_false_eq_true, not_true_eq_false, ce_5, zb_t, zb_f, h0, upd_eqI, Bool.false_eq_true]
    rw [show upd I 0 (nI 0) = I by rw [← h0, upd_eqI]]
  · simp (disch := omega) only [ze_123_0, ze_123_1, ze_123_4, ze_123_7, ze_123_8, ze_123_11, ze_123_12, ze_123_13, ze_123_16, ze_123_17, ze_123_20, ze_123_23, ze_123_24, ze_123_27, ze_123_28, z_k_r, z_push_s, z_push_n, okS_0, okS_I, okS_R, okS_A, List.getElem?_cons_zero, List.getElem?_cons_succ, List.length_cons, List.length_nil, List.set_cons_zero, List.set_cons_succ, true_and, and_true, z_tI, z_tB, pk_mul, nI_add, cI_cl, cI_ix, nar_0, nar_1, nar_b, Nat.reduceAdd, Nat.reduceLT, Nat.reduceMul, mg_0, mg_1, mg_2, mg_3, mg_4, mg_5, mg_6, mg_7, mg_8, mg_9, mg_10, mg_11, mg_12, mg_13, mg_14, mg_15, mg_16, mg_17, mg_18, mg_19, mg_20, mg_21, mg_22, mg_23, mg_24, mg_25, mg_26, mg_27, mg_28, mp_0, mp_1, mp_2, mp_3, mp_4, mp_5, mp_6, mp_13, mp_14, mp_15, mp_16, mp_17, mp_18, mp_19, mp_20, mp_21, mp_23, mL_1, mL_2, mL_3, mL_4, mL_5, mL_6, mL_7, mL_8, mL_9, mL_10, mL_11, mL_12, mS_1, mS_2, mS_3, mS_4, mS_5, mS_6, mS_7, mS_8, mS_9, mS_10, mS_11, mS_12, m_gO, uA_s, uA_n, cI_lt, cI_eq, if_true, if_false, Nat.lt_irrefl, eq_self, Nat.reduceEqDiff, or_true, true_or, or_false, false_or, not_false_eq_true, not_true_eq_false, ce_5, zb_t, zb_f, h0, upd_at, he.1, Bool.true_eq_false]
theorem m_cell {r j : Nat} : z_Ca g d 127 [.int (nI r), .int (nI j)] h P = P (.inr (some (.int (nI (r * 5 + j)))), h) := by
  rw [zn_127]
  simp (disch := omega) only [ze_127_0, ze_127_1, ze_127_2, ze_127_3, ze_127_4, ze_127_5, z_k_r, z_push_s, z_push_n, okS_0, okS_I, okS_R, okS_A, List.getElem?_cons_zero, List.getElem?_cons_succ, List.length_cons, List.length_nil, List.set_cons_zero, List.set_cons_succ, true_and, and_true, z_tI, z_tB, pk_mul, nI_add, cI_cl, cI_ix, nar_0, nar_1, nar_b, Nat.reduceAdd, Nat.reduceLT, Nat.reduceMul]
  rw [Nat.mul_comm 5 r]
/-- the reference's cells, bans and size are told by S -/
def MH (I : Nat → Int32) (A : Nat → Nat → Int32) (S : GS) : Prop := I 1 = nI S.R ∧ I 2 = nI S.C ∧ (∀ k, k < 25 → A 5 k = ce (S.c k)) ∧ (∀ k, k < 25 → A 2 k = sS (S.b k))
theorem MH_upd {k : Nat} (x : Int32) (hk : k ≠ 1 ∧ k ≠ 2) (h : MH I A S) : MH (upd I k x) A S := by
  obtain ⟨h1, h2, h3, h4⟩ := h
  refine ⟨?_, ?_, h3, h4⟩
  · rw [upd_ne (fun e => hk.1 e.symm), h1]
  · rw [upd_ne (fun e => hk.2 e.symm), h2]
theorem m_at (hM : MH I A S) (hd : 0 < d) {r j : Nat} (hr : r < 5) (hj : j < 5) : z_Ca g d 145 [.ref m, .int (nI r), .int (nI j)] (mw f m I A, q) P = P (.inr (some (.int (ce (S.c (r * 5 + j))))), (mw f m I A, q)) := by
  obtain ⟨h1, h2, h3, h4⟩ := hM
  rw [zn_145]
  simp (disch := omega) only [ze_145_0, ze_145_1, ze_145_4, ze_145_5, ze_145_6, ze_145_9, ze_145_10, z_k_r, z_push_s, z_push_n, okS_0, okS_I, okS_R, okS_A, List.getElem?_cons_zero, List.getElem?_cons_succ, List.length_cons, List.length_nil, List.set_cons_zero, List.set_cons_succ, true_and, and_true, z_tI, z_tB, pk_mul, nI_add, cI_cl, cI_ix, nar_0, nar_1, nar_b, Nat.reduceAdd, Nat.reduceLT, Nat.reduceMul, mg_0, mg_1, mg_2, mg_3, mg_4, mg_5, mg_6, mg_7, mg_8, mg_9, mg_10, mg_11, mg_12, mg_13, mg_14, mg_15, mg_16, mg_17, mg_18, mg_19, mg_20, mg_21, mg_22, mg_23, mg_24, mg_25, mg_26, mg_27, mg_28, mp_0, mp_1, mp_2, mp_3, mp_4, mp_5, mp_6, mp_13, mp_14, mp_15, mp_16, mp_17, mp_18, mp_19, mp_20, mp_21, mp_23, mL_1, mL_2, mL_3, mL_4, mL_5, mL_6, mL_7, mL_8, mL_9, mL_10, mL_11, mL_12, mS_1, mS_2, mS_3, mS_4, mS_5, mS_6, mS_7, mS_8, mS_9, mS_10, mS_11, mS_12, m_gO, uA_s, uA_n, m_cell, hd, h3]
theorem wi_okN {x : Int32} {n : Nat} (h : 0 < n) (hn : n < 2147483648) : wi x (nI 0) (nI n - nI 1) = okN x n := by
  unfold wi okN
  rw [cI_sub (by omega)]
  by_cases e : x < nI 0
  · simp [e]
  · obtain ⟨j, h1, rfl⟩ := nI_of e
    simp (disch := omega) only [cI_lt, Nat.not_lt_zero, decide_false, Bool.not_false, Bool.true_and]
    by_cases e2 : j < n
    · rw [decide_eq_true e2, decide_eq_false (by omega)]
      rfl
    · rw [decide_eq_false e2, decide_eq_true (by omega)]
      rfl
theorem m_noRow (hd : 0 < d) {R : Nat} (hR : I 1 = nI R) (hR1 : 1 ≤ R ∧ R ≤ 5) (x : Int32) : z_Ca g d 143 [.ref m, .int x] (mw f m I A, q) P = P (.inr (some (.int (zb (!okN x R)))), (mw f m (upd I 0 (if okN x R = true then nI 0 else nI 1)) A, q)) := by
  rw [zn_143]
  simp (disch := omega) only [ze_143_0, ze_143_1, ze_143_2, ze_143_5, ze_143_6, ze_143_7, ze_143_8, ze_143_9, ze_143_12, ze_143_13, ze_143_14, ze_143_17, ze_143_20, ze_143_21, ze_143_24, ze_143_25, ze_143_26, ze_143_29, z_k_r, z_push_s, z_push_n, okS_0, okS_I, okS_R, okS_A, List.getElem?_cons_zero, List.getElem?_cons_succ, List.length_cons, List.length_nil, List.set_cons_zero, List.set_cons_succ, true_and, and_true, z_tI, z_tB, pk_mul, nI_add, cI_cl, cI_ix, nar_0, nar_1, nar_b, Nat.reduceAdd, Nat.reduceLT, Nat.reduceMul, mg_0, mg_1, mg_2, mg_3, mg_4, mg_5, mg_6, mg_7, mg_8, mg_9, mg_10, mg_11, mg_12, mg_13, mg_14, mg_15, mg_16, mg_17, mg_18, mg_19, mg_20, mg_21, mg_22, mg_23, mg_24, mg_25, mg_26, mg_27, mg_28, mp_0, mp_1, mp_2, mp_3, mp_4, mp_5, mp_6, mp_13, mp_14, mp_15, mp_16, mp_17, mp_18, mp_19, mp_20, mp_21, mp_23, mL_1, mL_2, mL_3, mL_4, mL_5, mL_6, mL_7, mL_8, mL_9, mL_10, mL_11, mL_12, mS_1, mS_2, mS_3, mS_4, mS_5, mS_6, mS_7, mS_8, mS_9, mS_10, mS_11, mS_12, m_gO, uA_s, uA_n, m_within, hd, upd_ne, hR, zb_0, ne_eq, Nat.reduceEqDiff, not_false_eq_true]
  rw [wi_okN (by omega) (by omega)]
  have := fun p I (h : I 0 = nI 0) P => m_throws (g := g) (d := d - 1) (f := f) (q := q) (P := P) (m := m) (I := I) (A := A) p (e := 1) (by omega) h
  cases e : okN x R
  · have z := this true (upd I 0 (nI 0)) (upd_at _ _ _)
    rw [show zb true = nI 1 from rfl] at z
    simp (disch := omega) only [ze_143_0, ze_143_1, ze_143_2, ze_143_5, ze_143_6, ze_143_7, ze_143_8, ze_143_9, ze_143_12, ze_143_13, ze_143_14, ze_143_17, ze_143_20, ze_143_21, ze_143_24, ze_143_25, ze_143_26, ze_143_29, z_k_r, z_push_s, z_push_n, okS_0, okS_I, okS_R, okS_A, List.getElem?_cons_zero, List.getElem?_cons_succ, List.length_cons, List.length_nil, List.set_cons_zero, List.set_cons_succ, true_and, and_true, z_tI, z_tB, pk_mul, nI_add, cI_cl, cI_ix, nar_0, nar_1, nar_b, Nat.reduceAdd, Nat.reduceLT, Nat.reduceMul, mg_0, mg_1, mg_2, mg_3, mg_4, mg_5, mg_6, mg_7, mg_8, mg_9, mg_10, mg_11, mg_12, mg_13, mg_14, mg_15, mg_16, mg_17, mg_18, mg_19, mg_20, mg_21, mg_22, mg_23, mg_24, mg_25, mg_26, mg_27, mg_28, mp_0, mp_1, mp_2, mp_3, mp_4, mp_5, mp_6, mp_13, mp_14, mp_15, mp_16, mp_17, mp_18, mp_19, mp_20, mp_21, mp_23, mL_1, mL_2, mL_3, mL_4, mL_5, mL_6, mL_7, mL_8, mL_9, mL_10, mL_11, mL_12, mS_1, mS_2, mS_3, mS_4, mS_5, mS_6, mS_7, mS_8, mS_9, mS_10, mS_11, mS_12, m_gO, uA_s, uA_n, cI_lt, cI_eq, if_true, if_false, Nat.lt_irrefl, eq_self, Nat.reduceEqDiff, or_true, true_or, or_false, false_or, not_false_eq_true, not_true_eq_false, ce_5, zb_t, zb_f, hd, z, upd_upd, Bool.false_eq_true, Bool.not_false]
  · have z := this false (upd I 0 (nI 0)) (upd_at _ _ _)
    rw [show zb false = nI 0 from rfl] at z
    simp (disch := omega) only [ze_143_0, ze_143_1, ze_143_2, ze_143_5, ze_143_6, ze_143_7, ze_143_8, ze_143_9, ze_143_12, ze_143_13, ze_143_14, ze_143_17, ze_143_20, ze_143_21, ze_143_24, ze_143_25, ze_143_26, ze_143_29, z_k_r, z_push_s, z_push_n, okS_0, okS_I, okS_R, okS_A, List.getElem?_cons_zero, List.getElem?_cons_succ, List.length_cons, List.length_nil, List.set_cons_zero, List.set_cons_succ, true_and, and_true, z_tI, z_tB, pk_mul, nI_add, cI_cl, cI_ix, nar_0, nar_1, nar_b, Nat.reduceAdd, Nat.reduceLT, Nat.reduceMul, mg_0, mg_1, mg_2, mg_3, mg_4, mg_5, mg_6, mg_7, mg_8, mg_9, mg_10, mg_11, mg_12, mg_13, mg_14, mg_15, mg_16, mg_17, mg_18, mg_19, mg_20, mg_21, mg_22, mg_23, mg_24, mg_25, mg_26, mg_27, mg_28, mp_0, mp_1, mp_2, mp_3, mp_4, mp_5, mp_6, mp_13, mp_14, mp_15, mp_16, mp_17, mp_18, mp_19, mp_20, mp_21, mp_23, mL_1, mL_2, mL_3, mL_4, mL_5, mL_6, mL_7, mL_8, mL_9, mL_10, mL_11, mL_12, mS_1, mS_2, mS_3, mS_4, mS_5, mS_6, mS_7, mS_8, mS_9, mS_10, mS_11, mS_12, m_gO, uA_s, uA_n, cI_lt, cI_eq, if_true, if_false, Nat.lt_irrefl, eq_self, Nat.reduceEqDiff, or_true, true_or, or_false, false_or, not_false_eq_true, not_true_eq_false, ce_5, zb_t, zb_f, hd, z, upd_upd, Bool.false_eq_true, Bool.not_true, Bool.true_eq_false]
end
