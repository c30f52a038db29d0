/-! the reference: copies, undo, snapshots, what is asked of a cycle; a cell emptied, two rows switched -/
section
variable {g : z_G} {d : Nat} {f : Nat → Option z_C} {q : Option Nat × Nat × Nat} {P : z_Res → Prop} {m : Nat} {I : Nat → Int32} {A : Nat → Nat → Int32} {S : GS}
def cpF (F T : Nat → Int32) (at_ into n : Nat) : Nat → Int32 := fun k => if into ≤ k ∧ k < into + n then F (at_ + (k - into)) else T k
theorem m_cop1 {p p' lp lp' : Nat} (r1 : ∀ A k, k < lp → ∀ K, z_aL (mw f m I A) (m + p) z_tI (nI k) K = K (A p k)) (w1 : ∀ A k, k < lp' → ∀ x K, z_aS (mw f m I A) (m + p') z_tI (nI k) x K = K (mw f m I (uA A p' (upd (A p') k x)))) {at_ into n : Nat} (b1 : at_ + n ≤ lp) (b2 : into + n ≤ lp') (hl : lp ≤ 500 ∧ lp' ≤ 500) (hp : p ≠ p' ∨ into ≤ at_) : ∀ (k i : Nat) (A' : Nat → Nat → Int32), i + k = n → A' = uA A p' (cpF (A p) (A p') at_ into i) → z_T g d 196 3 [.ref (m + p), .int (nI at_), .ref (m + p'), .int (nI into), .int (nI n), .int (nI i)] [] (mw f m I A', q) P = P (.inr none, (mw f m I (uA A p' (cpF (A p) (A p') at_ into n)), q))
  | 0, i, A', h, hA => by
    have : i = n := by omega
    subst this
    rw [hA, ze_196_3]
    simp (disch := omega) only [ze_196_0, ze_196_1, ze_196_5, ze_196_7, ze_196_10, ze_196_11, ze_196_12, ze_196_14, ze_196_15, ze_196_16, ze_196_17, ze_196_19, ze_196_20, ze_196_21, ze_196_22, ze_196_25, ze_196_28, z_k_r, z_push_s, z_push_n, okS_0, okS_I, okS_R, okS_A, List.getElem?_cons_zero, List.getElem?_cons_succ, List.length_cons, List.length_nil, List.set_cons_zero, List.set_cons_succ, true_and, and_true, z_tI, z_tB, pk_mul, nI_add, cI_cl, cI_ix, nar_0, nar_1, nar_b, Nat.reduceAdd, Nat.reduceLT, Nat.reduceMul, cI_lt, cI_eq, ↓reduceIte, if_true, if_false, Nat.lt_irrefl, eq_self, Nat.reduceEqDiff, or_true, true_or, or_false, false_or, not_false_eq_true, not_true_eq_false, ce_5, zb_t, zb_f]
  | k + 1, i, A', h, hA => by
    have hi : i < n := by omega
    have e1 : at_ + i < lp := by omega
    have e2 : into + i < lp' := by omega
    rw [ze_196_3]
    simp (disch := omega) only [ze_196_0, ze_196_1, ze_196_5, ze_196_7, ze_196_10, ze_196_11, ze_196_12, ze_196_14, ze_196_15, ze_196_16, ze_196_17, ze_196_19, ze_196_20, ze_196_21, ze_196_22, ze_196_25, ze_196_28, z_k_r, z_push_s, z_push_n, okS_0, okS_I, okS_R, okS_A, List.getElem?_cons_zero, List.getElem?_cons_succ, List.length_cons, List.length_nil, List.set_cons_zero, List.set_cons_succ, true_and, and_true, z_tI, z_tB, pk_mul, nI_add, cI_cl, cI_ix, nar_0, nar_1, nar_b, Nat.reduceAdd, Nat.reduceLT, Nat.reduceMul, cI_lt, cI_eq, ↓reduceIte, if_true, if_false, Nat.lt_irrefl, eq_self, Nat.reduceEqDiff, or_true, true_or, or_false, false_or, not_false_eq_true, not_true_eq_false, ce_5, zb_t, zb_f, hi, r1 _ _ e1, w1 _ _ e2]
    refine m_cop1 r1 w1 b1 b2 hl hp k (i + 1) _ (by omega) ?_
    have v1 : A' p (at_ + i) = A p (at_ + i) := by
      rw [hA]
      unfold uA
      by_cases e : p = p'
      · rw [if_pos e]
        unfold cpF
        rw [if_neg (by omega), e]
      · rw [if_neg e]
    rw [v1, hA, uA_uA, uA_s]
    congr 1
    funext x
    unfold cpF
    by_cases e : x = into + i
    · rw [e, upd_at, if_pos (by omega)]
      congr 1
      omega
    · rw [upd_ne e]
      have : (into ≤ x ∧ x < into + (i + 1)) = (into ≤ x ∧ x < into + i) := propext (by omega)
      simp only [this]
theorem m_cop {p p' lp lp' : Nat} (r1 : ∀ A k, k < lp → ∀ K, z_aL (mw f m I A) (m + p) z_tI (nI k) K = K (A p k)) (w1 : ∀ A k, k < lp' → ∀ x K, z_aS (mw f m I A) (m + p') z_tI (nI k) x K = K (mw f m I (uA A p' (upd (A p') k x)))) {at_ into n : Nat} (b1 : at_ + n ≤ lp) (b2 : into + n ≤ lp') (hl : lp ≤ 500 ∧ lp' ≤ 500) (hp : p ≠ p' ∨ into ≤ at_) : z_Ca g d 196 [.ref (m + p), .int (nI at_), .ref (m + p'), .int (nI into), .int (nI n)] (mw f m I A, q) P = P (.inr none, (mw f m I (uA A p' (cpF (A p) (A p') at_ into n)), q)) := by
  have e : uA A p' (cpF (A p) (A p') at_ into 0) = A := by
    have : cpF (A p) (A p') at_ into 0 = A p' := by
      funext x
      unfold cpF
      rw [if_neg (by omega)]
    rw [this, uA_id]
  have := m_cop1 (g := g) (d := d) (q := q) (P := P) (A := A) r1 w1 b1 b2 hl hp n 0 A (by omega) e.symm
  rw [← this, zn_196]
  simp (disch := omega) only [ze_196_0, ze_196_1, ze_196_5, ze_196_7, ze_196_10, ze_196_11, ze_196_12, ze_196_14, ze_196_15, ze_196_16, ze_196_17, ze_196_19, ze_196_20, ze_196_21, ze_196_22, ze_196_25, ze_196_28, z_k_r, z_push_s, z_push_n, okS_0, okS_I, okS_R, okS_A, List.getElem?_cons_zero, List.getElem?_cons_succ, List.length_cons, List.length_nil, List.set_cons_zero, List.set_cons_succ, true_and, and_true, z_tI, z_tB, pk_mul, nI_add, cI_cl, cI_ix, nar_0, nar_1, nar_b, Nat.reduceAdd, Nat.reduceLT, Nat.reduceMul]
theorem rd_5 (A : Nat → Nat → Int32) (k : Nat) (h : k < 25) (K : Int32 → Prop) : z_aL (mw f m I A) (m + 5) z_tI (nI k) K = K (A 5 k) := mL_5 f m I A h K
theorem rd_8 (A : Nat → Nat → Int32) (k : Nat) (h : k < 250) (K : Int32 → Prop) : z_aL (mw f m I A) (m + 8) z_tI (nI k) K = K (A 8 k) := mL_8 f m I A h K
theorem rd_9 (A : Nat → Nat → Int32) (k : Nat) (h : k < 50) (K : Int32 → Prop) : z_aL (mw f m I A) (m + 9) z_tI (nI k) K = K (A 9 k) := mL_9 f m I A h K
theorem rd_10 (A : Nat → Nat → Int32) (k : Nat) (h : k < 25) (K : Int32 → Prop) : z_aL (mw f m I A) (m + 10) z_tI (nI k) K = K (A 10 k) := mL_10 f m I A h K
theorem rd_11 (A : Nat → Nat → Int32) (k : Nat) (h : k < 25) (K : Int32 → Prop) : z_aL (mw f m I A) (m + 11) z_tI (nI k) K = K (A 11 k) := mL_11 f m I A h K
theorem wr_5 (A : Nat → Nat → Int32) (k : Nat) (h : k < 25) (x : Int32) (K : (Nat → Option z_C) → Prop) : z_aS (mw f m I A) (m + 5) z_tI (nI k) x K = K (mw f m I (uA A 5 (upd (A 5) k x))) := mS_5 f m I A h x K
theorem wr_8 (A : Nat → Nat → Int32) (k : Nat) (h : k < 250) (x : Int32) (K : (Nat → Option z_C) → Prop) : z_aS (mw f m I A) (m + 8) z_tI (nI k) x K = K (mw f m I (uA A 8 (upd (A 8) k x))) := mS_8 f m I A h x K
theorem wr_9 (A : Nat → Nat → Int32) (k : Nat) (h : k < 50) (x : Int32) (K : (Nat → Option z_C) → Prop) : z_aS (mw f m I A) (m + 9) z_tI (nI k) x K = K (mw f m I (uA A 9 (upd (A 9) k x))) := mS_9 f m I A h x K
theorem wr_10 (A : Nat → Nat → Int32) (k : Nat) (h : k < 25) (x : Int32) (K : (Nat → Option z_C) → Prop) : z_aS (mw f m I A) (m + 10) z_tI (nI k) x K = K (mw f m I (uA A 10 (upd (A 10) k x))) := mS_10 f m I A h x K
theorem wr_11 (A : Nat → Nat → Int32) (k : Nat) (h : k < 25) (x : Int32) (K : (Nat → Option z_C) → Prop) : z_aS (mw f m I A) (m + 11) z_tI (nI k) x K = K (mw f m I (uA A 11 (upd (A 11) k x))) := mS_11 f m I A h x K
theorem cop_5_8 {n : Nat} (h : n < 10) : z_Ca g d 196 [.ref (m + 5), .int (nI 0), .ref (m + 8), .int (nI (25 * n)), .int (nI 25)] (mw f m I A, q) P = P (.inr none, (mw f m I (uA A 8 (cpF (A 5) (A 8) 0 (25 * n) 25)), q)) := m_cop rd_5 wr_8 (by omega) (by omega) (by omega) (Or.inl (by omega))
theorem cop_8_8 : z_Ca g d 196 [.ref (m + 8), .int (nI 25), .ref (m + 8), .int (nI 0), .int (nI 225)] (mw f m I A, q) P = P (.inr none, (mw f m I (uA A 8 (cpF (A 8) (A 8) 25 0 225)), q)) := m_cop rd_8 wr_8 (by omega) (by omega) (by omega) (Or.inr (by omega))
theorem cop_8_5 {n : Nat} (h : n < 10) : z_Ca g d 196 [.ref (m + 8), .int (nI (25 * n)), .ref (m + 5), .int (nI 0), .int (nI 25)] (mw f m I A, q) P = P (.inr none, (mw f m I (uA A 5 (cpF (A 8) (A 5) (25 * n) 0 25)), q)) := m_cop rd_8 wr_5 (by omega) (by omega) (by omega) (Or.inl (by omega))
theorem cop_5_9 {n : Nat} (h : n < 2) : z_Ca g d 196 [.ref (m + 5), .int (nI 0), .ref (m + 9), .int (nI (25 * n)), .int (nI 25)] (mw f m I A, q) P = P (.inr none, (mw f m I (uA A 9 (cpF (A 5) (A 9) 0 (25 * n) 25)), q)) := m_cop rd_5 wr_9 (by omega) (by omega) (by omega) (Or.inl (by omega))
theorem cop_9_5 {n : Nat} (h : n < 2) : z_Ca g d 196 [.ref (m + 9), .int (nI (25 * n)), .ref (m + 5), .int (nI 0), .int (nI 25)] (mw f m I A, q) P = P (.inr none, (mw f m I (uA A 5 (cpF (A 9) (A 5) (25 * n) 0 25)), q)) := m_cop rd_9 wr_5 (by omega) (by omega) (by omega) (Or.inl (by omega))
theorem cop_5_10 : z_Ca g d 196 [.ref (m + 5), .int (nI 0), .ref (m + 10), .int (nI 0), .int (nI 25)] (mw f m I A, q) P = P (.inr none, (mw f m I (uA A 10 (cpF (A 5) (A 10) 0 0 25)), q)) := m_cop rd_5 wr_10 (by omega) (by omega) (by omega) (Or.inl (by omega))
theorem cop_5_11 : z_Ca g d 196 [.ref (m + 5), .int (nI 0), .ref (m + 11), .int (nI 0), .int (nI 25)] (mw f m I A, q) P = P (.inr none, (mw f m I (uA A 11 (cpF (A 5) (A 11) 0 0 25)), q)) := m_cop rd_5 wr_11 (by omega) (by omega) (by omega) (Or.inl (by omega))
theorem cop_10_5 : z_Ca g d 196 [.ref (m + 10), .int (nI 0), .ref (m + 5), .int (nI 0), .int (nI 25)] (mw f m I A, q) P = P (.inr none, (mw f m I (uA A 5 (cpF (A 10) (A 5) 0 0 25)), q)) := m_cop rd_10 wr_5 (by omega) (by omega) (by omega) (Or.inl (by omega))
theorem cop_11_5 : z_Ca g d 196 [.ref (m + 11), .int (nI 0), .ref (m + 5), .int (nI 0), .int (nI 25)] (mw f m I A, q) P = P (.inr none, (mw f m I (uA A 5 (cpF (A 11) (A 5) 0 0 25)), q)) := m_cop rd_11 wr_5 (by omega) (by omega) (by omega) (Or.inl (by omega))
def kpF (F N : Nat → Int32) (cn : Nat) : Nat → Int32 := if cn = 10 then cpF N (cpF F F 25 0 225) 0 225 25 else cpF N F 0 (25 * cn) 25
theorem m_keeps {cn : Nat} (hJ : I 23 = nI cn) (hcn : cn ≤ 10) (hd : 0 < d) : z_Ca g d 197 [.ref m] (mw f m I A, q) P = P (.inr none, (mw f m (upd I 23 (nI (min (cn + 1) 10))) (uA A 8 (kpF (A 8) (A 5) cn)), q)) := by
  rw [zn_197]
  unfold kpF
  by_cases e : cn = 10
  · subst e
    have e1 : nI 10 - nI 1 = nI 9 := by rw [cI_sub (by omega)]
    have c2 := fun I A P => cop_5_8 (g := g) (d := d - 1) (f := f) (q := q) (P := P) (m := m) (I := I) (A := A) (n := 9) (by omega)
    simp (disch := omega) only [ze_197_0, ze_197_1, ze_197_4, ze_197_6, ze_197_9, ze_197_10, ze_197_10_i, ze_197_11, ze_197_14, ze_197_15, ze_197_16, ze_197_19, ze_197_20, ze_197_23, ze_197_25, ze_197_26, ze_197_29, ze_197_30, ze_197_32, ze_197_33, ze_197_36, ze_197_37, ze_197_40, ze_197_41, ze_197_44, ze_197_45, ze_197_46, ze_197_49, ze_197_51, ze_197_52, ze_197_55, ze_197_56, ze_197_58, ze_197_61, ze_197_62, ze_197_62_i, ze_197_63, ze_197_66, ze_197_67, ze_197_68, ze_197_71, z_k_r, z_push_s, z_push_n, okS_0, okS_I, okS_R, okS_A, List.getElem?_cons_zero, List.getElem?_cons_succ, List.length_cons, List.length_nil, List.set_cons_zero, List.set_cons_succ, true_and, and_true, z_tI, z_tB, pk_mul, nI_add, cI_cl, cI_ix, nar_0, nar_1, nar_b, Nat.reduceAdd, Nat.reduceLT, Nat.reduceMul, ↓mg_0, ↓mg_1, ↓mg_2, ↓mg_3, ↓mg_4, ↓mg_5, ↓mg_6, ↓mg_7, ↓mg_8, ↓mg_9, ↓mg_10, ↓mg_11, ↓mg_12, ↓mg_13, ↓mg_14, ↓mg_15, ↓mg_16, ↓mg_17, ↓mg_18, ↓mg_19, ↓mg_20, ↓mg_21, ↓mg_22, ↓mg_23, ↓mg_24, ↓mg_25, ↓mg_26, ↓mg_27, ↓mg_28, mp_0, mp_1, mp_2, mp_3, mp_4, mp_5, mp_6, mp_13, mp_14, mp_15, mp_16, mp_17, mp_18, mp_19, mp_20, mp_21, mp_23, mL_1, mL_2, mL_3, mL_4, mL_5, mL_6, mL_7, mL_8, mL_9, mL_10, mL_11, mL_12, mS_1, mS_2, mS_3, mS_4, mS_5, mS_6, mS_7, mS_8, mS_9, mS_10, mS_11, mS_12, m_gO, uA_s, uA_n, cI_lt, cI_eq, ↓reduceIte, if_true, if_false, Nat.lt_irrefl, eq_self, Nat.reduceEqDiff, or_true, true_or, or_false, false_or, not_false_eq_true, not_true_eq_false, ce_5, zb_t, zb_f, hJ, e1, upd_at, cop_8_8, c2, hd, uA_uA, upd_upd, uA_s, uA_n, ne_eq, Nat.reduceEqDiff]
    rfl
  · have e1 : min (cn + 1) 10 = cn + 1 := by omega
    rw [if_neg e, e1]
    simp (disch := omega) only [ze_197_0, ze_197_1, ze_197_4, ze_197_6, ze_197_9, ze_197_10, ze_197_10_i, ze_197_11, ze_197_14, ze_197_15, ze_197_16, ze_197_19, ze_197_20, ze_197_23, ze_197_25, ze_197_26, ze_197_29, ze_197_30, ze_197_32, ze_197_33, ze_197_36, ze_197_37, ze_197_40, ze_197_41, ze_197_44, ze_197_45, ze_197_46, ze_197_49, ze_197_51, ze_197_52, ze_197_55, ze_197_56, ze_197_58, ze_197_61, ze_197_62, ze_197_62_i, ze_197_63, ze_197_66, ze_197_67, ze_197_68, ze_197_71, z_k_r, z_push_s, z_push_n, okS_0, okS_I, okS_R, okS_A, List.getElem?_cons_zero, List.getElem?_cons_succ, List.length_cons, List.length_nil, List.set_cons_zero, List.set_cons_succ, true_and, and_true, z_tI, z_tB, pk_mul, nI_add, cI_cl, cI_ix, nar_0, nar_1, nar_b, Nat.reduceAdd, Nat.reduceLT, Nat.reduceMul, ↓mg_0, ↓mg_1, ↓mg_2, ↓mg_3, ↓mg_4, ↓mg_5, ↓mg_6, ↓mg_7, ↓mg_8, ↓mg_9, ↓mg_10, ↓mg_11, ↓mg_12, ↓mg_13, ↓mg_14, ↓mg_15, ↓mg_16, ↓mg_17, ↓mg_18, ↓mg_19, ↓mg_20, ↓mg_21, ↓mg_22, ↓mg_23, ↓mg_24, ↓mg_25, ↓mg_26, ↓mg_27, ↓mg_28, mp_0, mp_1, mp_2, mp_3, mp_4, mp_5, mp_6, mp_13, mp_14, mp_15, mp_16, mp_17, mp_18, mp_19, mp_20, mp_21, mp_23, mL_1, mL_2, mL_3, mL_4, mL_5, mL_6, mL_7, mL_8, mL_9, mL_10, mL_11, mL_12, mS_1, mS_2, mS_3, mS_4, mS_5, mS_6, mS_7, mS_8, mS_9, mS_10, mS_11, mS_12, m_gO, uA_s, uA_n, cI_lt, cI_eq, ↓reduceIte, if_true, if_false, Nat.lt_irrefl, eq_self, Nat.reduceEqDiff, or_true, true_or, or_false, false_or, not_false_eq_true, not_true_eq_false, ce_5, zb_t, zb_f, hJ, e, cop_5_8, hd]
theorem m_noSlot (x : Int32) (hd : 0 < d) : z_Ca g d 183 [.ref m, .int x] (mw f m I A, q) P = P (.inr (some (.int (zb (!okN x 2)))), (mw f m (upd I 0 (if okN x 2 = true then nI 0 else nI 1)) A, q)) := by
  have w := wi_ok (w := x) (l := 1) (by omega)
  rw [zn_183]
  cases e : okN x 2
  · rw [e] at w
    simp (disch := omega) only [ze_183_0, ze_183_1, ze_183_2, ze_183_5, ze_183_6, ze_183_7, ze_183_8, ze_183_9, ze_183_12, ze_183_15, ze_183_16, ze_183_19, ze_183_20, ze_183_21, ze_183_24, z_k_r, z_push_s, z_push_n, okS_0, okS_I, okS_R, okS_A, List.getElem?_cons_zero, List.getElem?_cons_succ, List.length_cons, List.length_nil, List.set_cons_zero, List.set_cons_succ, true_and, and_true, z_tI, z_tB, pk_mul, nI_add, cI_cl, cI_ix, nar_0, nar_1, nar_b, Nat.reduceAdd, Nat.reduceLT, Nat.reduceMul, ↓mg_0, ↓mg_1, ↓mg_2, ↓mg_3, ↓mg_4, ↓mg_5, ↓mg_6, ↓mg_7, ↓mg_8, ↓mg_9, ↓mg_10, ↓mg_11, ↓mg_12, ↓mg_13, ↓mg_14, ↓mg_15, ↓mg_16, ↓mg_17, ↓mg_18, ↓mg_19, ↓mg_20, ↓mg_21, ↓mg_22, ↓mg_23, ↓mg_24, ↓mg_25, ↓mg_26, ↓mg_27, ↓mg_28, mp_0, mp_1, mp_2, mp_3, mp_4, mp_5, mp_6, mp_13, mp_14, mp_15, mp_16, mp_17, mp_18, mp_19, mp_20, mp_21, mp_23, mL_1, mL_2, mL_3, mL_4, mL_5, mL_6, mL_7, mL_8, mL_9, mL_10, mL_11, mL_12, mS_1, mS_2, mS_3, mS_4, mS_5, mS_6, mS_7, mS_8, mS_9, mS_10, mS_11, mS_12, m_gO, uA_s, uA_n, cI_lt, cI_eq, ↓reduceIte, if_true, if_false, Nat.lt_irrefl, eq_self, Nat.reduceEqDiff, or_true, true_or, or_false, false_or, not_false_eq_true, not_true_eq_false, ce_5, zb_t, zb_f, m_within, w, hd, thT, Bool.false_eq_true, Bool.not_false]
  · rw [e] at w
    simp (disch := omega) only [ze_183_0, ze_183_1, ze_183_2, ze_183_5, ze_183_6, ze_183_7, ze_183_8, ze_183_9, ze_183_12, ze_183_15, ze_183_16, ze_183_19, ze_183_20, ze_183_21, ze_183_24, z_k_r, z_push_s, z_push_n, okS_0, okS_I, okS_R, okS_A, List.getElem?_cons_zero, List.getElem?_cons_succ, List.length_cons, List.length_nil, List.set_cons_zero, List.set_cons_succ, true_and, and_true, z_tI, z_tB, pk_mul, nI_add, cI_cl, cI_ix, nar_0, nar_1, nar_b, Nat.reduceAdd, Nat.reduceLT, Nat.reduceMul, ↓mg_0, ↓mg_1, ↓mg_2, ↓mg_3, ↓mg_4, ↓mg_5, ↓mg_6, ↓mg_7, ↓mg_8, ↓mg_9, ↓mg_10, ↓mg_11, ↓mg_12, ↓mg_13, ↓mg_14, ↓mg_15, ↓mg_16, ↓mg_17, ↓mg_18, ↓mg_19, ↓mg_20, ↓mg_21, ↓mg_22, ↓mg_23, ↓mg_24, ↓mg_25, ↓mg_26, ↓mg_27, ↓mg_28, mp_0, mp_1, mp_2, mp_3, mp_4, mp_5, mp_6, mp_13, mp_14, mp_15, mp_16, mp_17, mp_18, mp_19, mp_20, mp_21, mp_23, mL_1, mL_2, mL_3, mL_4, mL_5, mL_6, mL_7, mL_8, mL_9, mL_10, mL_11, mL_12, mS_1, mS_2, mS_3, mS_4, mS_5, mS_6, mS_7, mS_8, mS_9, mS_10, mS_11, mS_12, m_gO, uA_s, uA_n, cI_lt, cI_eq, ↓reduceIte, if_true, if_false, Nat.lt_irrefl, eq_self, Nat.reduceEqDiff, or_true, true_or, or_false, false_or, not_false_eq_true, not_true_eq_false, ce_5, zb_t, zb_f, m_within, w, hd, thF, Bool.false_eq_true, Bool.not_true]
theorem m_noSnap {s : Nat} {b : Bool} (hs : s < 2) (hb : A 12 s = zb b) (hd : 1 < d) : z_Ca g d 184 [.ref m, .int (nI s)] (mw f m I A, q) P = P (.inr (some (.int (zb (!b)))), (mw f m (upd I 0 (if b = true then nI 0 else nI 2)) A, q)) := by
  have hd0 : 0 < d := by omega
  have o1 : okN (nI s) 2 = true := okN_nI (by omega) hs
  rw [zn_184]
  cases b
  · simp (disch := omega) only [ze_184_0, ze_184_1, ze_184_2, ze_184_5, ze_184_8, ze_184_9, ze_184_10, ze_184_13, ze_184_14, ze_184_15, ze_184_18, ze_184_19, ze_184_22, ze_184_23, ze_184_24, ze_184_27, ze_184_30, ze_184_31, ze_184_34, ze_184_35, z_k_r, z_push_s, z_push_n, okS_0, okS_I, okS_R, okS_A, List.getElem?_cons_zero, List.getElem?_cons_succ, List.length_cons, List.length_nil, List.set_cons_zero, List.set_cons_succ, true_and, and_true, z_tI, z_tB, pk_mul, nI_add, cI_cl, cI_ix, nar_0, nar_1, nar_b, Nat.reduceAdd, Nat.reduceLT, Nat.reduceMul, ↓mg_0, ↓mg_1, ↓mg_2, ↓mg_3, ↓mg_4, ↓mg_5, ↓mg_6, ↓mg_7, ↓mg_8, ↓mg_9, ↓mg_10, ↓mg_11, ↓mg_12, ↓mg_13, ↓mg_14, ↓mg_15, ↓mg_16, ↓mg_17, ↓mg_18, ↓mg_19, ↓mg_20, ↓mg_21, ↓mg_22, ↓mg_23, ↓mg_24, ↓mg_25, ↓mg_26, ↓mg_27, ↓mg_28, mp_0, mp_1, mp_2, mp_3, mp_4, mp_5, mp_6, mp_13, mp_14, mp_15, mp_16, mp_17, mp_18, mp_19, mp_20, mp_21, mp_23, mL_1, mL_2, mL_3, mL_4, mL_5, mL_6, mL_7, mL_8, mL_9, mL_10, mL_11, mL_12, mS_1, mS_2, mS_3, mS_4, mS_5, mS_6, mS_7, mS_8, mS_9, mS_10, mS_11, mS_12, m_gO, uA_s, uA_n, cI_lt, cI_eq, ↓reduceIte, if_true, if_false, Nat.lt_irrefl, eq_self, Nat.reduceEqDiff, or_true, true_or, or_false, false_or, not_false_eq_true, not_true_eq_false, ce_5, zb_t, zb_f, m_noSlot, o1, hd0, Bool.not_true, hb, thT, Bool.false_eq_true, Bool.not_false]
  · simp (disch := omega) only [ze_184_0, ze_184_1, ze_184_2, ze_184_5, ze_184_8, ze_184_9, ze_184_10, ze_184_13, ze_184_14, ze_184_15, ze_184_18, ze_184_19, ze_184_22, ze_184_23, ze_184_24, ze_184_27, ze_184_30, ze_184_31, ze_184_34, ze_184_35, z_k_r, z_push_s, z_push_n, okS_0, okS_I, okS_R, okS_A, List.getElem?_cons_zero, List.getElem?_cons_succ, List.length_cons, List.length_nil, List.set_cons_zero, List.set_cons_succ, true_and, and_true, z_tI, z_tB, pk_mul, nI_add, cI_cl, cI_ix, nar_0, nar_1, nar_b, Nat.reduceAdd, Nat.reduceLT, Nat.reduceMul, ↓mg_0, ↓mg_1, ↓mg_2, ↓mg_3, ↓mg_4, ↓mg_5, ↓mg_6, ↓mg_7, ↓mg_8, ↓mg_9, ↓mg_10, ↓mg_11, ↓mg_12, ↓mg_13, ↓mg_14, ↓mg_15, ↓mg_16, ↓mg_17, ↓mg_18, ↓mg_19, ↓mg_20, ↓mg_21, ↓mg_22, ↓mg_23, ↓mg_24, ↓mg_25, ↓mg_26, ↓mg_27, ↓mg_28, mp_0, mp_1, mp_2, mp_3, mp_4, mp_5, mp_6, mp_13, mp_14, mp_15, mp_16, mp_17, mp_18, mp_19, mp_20, mp_21, mp_23, mL_1, mL_2, mL_3, mL_4, mL_5, mL_6, mL_7, mL_8, mL_9, mL_10, mL_11, mL_12, mS_1, mS_2, mS_3, mS_4, mS_5, mS_6, mS_7, mS_8, mS_9, mS_10, mS_11, mS_12, m_gO, uA_s, uA_n, cI_lt, cI_eq, ↓reduceIte, if_true, if_false, Nat.lt_irrefl, eq_self, Nat.reduceEqDiff, or_true, true_or, or_false, false_or, not_false_eq_true, not_true_eq_false, ce_5, zb_t, zb_f, m_noSlot, o1, hd0, Bool.not_true, hb, thF, Bool.false_eq_true, Bool.not_false]
theorem m_noSnapBad {x : Int32} (hx : okN x 2 = false) (hd : 1 < d) : z_Ca g d 184 [.ref m, .int x] (mw f m I A, q) P = P (.inr (some (.int (nI 1))), (mw f m (upd I 0 (nI 1)) A, q)) := by
  have hd0 : 0 < d := by omega
  rw [zn_184]
  simp (disch := omega) only [ze_184_0, ze_184_1, ze_184_2, ze_184_5, ze_184_8, ze_184_9, ze_184_10, ze_184_13, ze_184_14, ze_184_15, ze_184_18, ze_184_19, ze_184_22, ze_184_23, ze_184_24, ze_184_27, ze_184_30, ze_184_31, ze_184_34, ze_184_35, z_k_r, z_push_s, z_push_n, okS_0, okS_I, okS_R, okS_A, List.getElem?_cons_zero, List.getElem?_cons_succ, List.length_cons, List.length_nil, List.set_cons_zero, List.set_cons_succ, true_and, and_true, z_tI, z_tB, pk_mul, nI_add, cI_cl, cI_ix, nar_0, nar_1, nar_b, Nat.reduceAdd, Nat.reduceLT, Nat.reduceMul, ↓mg_0, ↓mg_1, ↓mg_2, ↓mg_3, ↓mg_4, ↓mg_5, ↓mg_6, ↓mg_7, ↓mg_8, ↓mg_9, ↓mg_10, ↓mg_11, ↓mg_12, ↓mg_13, ↓mg_14, ↓mg_15, ↓mg_16, ↓mg_17, ↓mg_18, ↓mg_19, ↓mg_20, ↓mg_21, ↓mg_22, ↓mg_23, ↓mg_24, ↓mg_25, ↓mg_26, ↓mg_27, ↓mg_28, mp_0, mp_1, mp_2, mp_3, mp_4, mp_5, mp_6, mp_13, mp_14, mp_15, mp_16, mp_17, mp_18, mp_19, mp_20, mp_21, mp_23, mL_1, mL_2, mL_3, mL_4, mL_5, mL_6, mL_7, mL_8, mL_9, mL_10, mL_11, mL_12, mS_1, mS_2, mS_3, mS_4, mS_5, mS_6, mS_7, mS_8, mS_9, mS_10, mS_11, mS_12, m_gO, uA_s, uA_n, cI_lt, cI_eq, ↓reduceIte, if_true, if_false, Nat.lt_irrefl, eq_self, Nat.reduceEqDiff, or_true, true_or, or_false, false_or, not_false_eq_true, not_true_eq_false, ce_5, zb_t, zb_f, m_noSlot, hx, hd0, Bool.not_false, Bool.false_eq_true]
theorem m_noCycBad (hM : MH I A S) (hg : GI S) (hd : 1 < d) {a b c : Int32} (h : ¬ (okN a S.R = true ∧ okN b S.R = true ∧ okN c S.C = true)) : z_Ca g d 178 [.ref m, .int a, .int b, .int c] (mw f m I A, q) P = P (.inr (some (.int (nI 1))), (mw f m (upd I 0 (nI 1)) A, q)) := by
  have hd0 : 0 < d := by omega
  have g1 := hg.R1
  have g2 := hg.RC
  have g3 := hg.C5
  have h1 := hM.1
  have h2 := hM.2.1
  have nr := fun (I : Nat → Int32) (h : I 1 = nI S.R) (x : Int32) P => m_noRow (g := g) (d := d - 1) (f := f) (q := q) (P := P) (m := m) (A := A) (by omega) (R := S.R) h (by omega) x
  rw [zn_178]
  cases e1 : okN a S.R
  · simp (disch := omega) only [ze_178_0, ze_178_1, ze_178_2, ze_178_5, ze_178_8, ze_178_9, ze_178_10, ze_178_13, ze_178_16, ze_178_17, ze_178_18, ze_178_19, ze_178_20, ze_178_23, ze_178_24, ze_178_25, ze_178_28, ze_178_31, ze_178_32, ze_178_35, ze_178_36, ze_178_37, ze_178_40, ze_178_43, ze_178_44, ze_178_45, ze_178_46, ze_178_49, ze_178_50, ze_178_53, ze_178_54, ze_178_55, ze_178_58, ze_178_61, ze_178_62, ze_178_63, ze_178_64, ze_178_65, ze_178_66, ze_178_69, ze_178_72, ze_178_73, ze_178_74, ze_178_77, ze_178_80, ze_178_81, ze_178_84, ze_178_85, ze_178_86, ze_178_89, z_k_r, z_push_s, z_push_n, okS_0, okS_I, okS_R, okS_A, List.getElem?_cons_zero, List.getElem?_cons_succ, List.length_cons, List.length_nil, List.set_cons_zero, List.set_cons_succ, true_and, and_true, z_tI, z_tB, pk_mul, nI_add, cI_cl, cI_ix, nar_0, nar_1, nar_b, Nat.reduceAdd, Nat.reduceLT, Nat.reduceMul, ↓mg_0, ↓mg_1, ↓mg_2, ↓mg_3, ↓mg_4, ↓mg_5, ↓mg_6, ↓mg_7, ↓mg_8, ↓mg_9, ↓mg_10, ↓mg_11, ↓mg_12, ↓mg_13, ↓mg_14, ↓mg_15, ↓mg_16, ↓mg_17, ↓mg_18, ↓mg_19, ↓mg_20, ↓mg_21, ↓mg_22, ↓mg_23, ↓mg_24, ↓mg_25, ↓mg_26, ↓mg_27, ↓mg_28, mp_0, mp_1, mp_2, mp_3, mp_4, mp_5, mp_6, mp_13, mp_14, mp_15, mp_16, mp_17, mp_18, mp_19, mp_20, mp_21, mp_23, mL_1, mL_2, mL_3, mL_4, mL_5, mL_6, mL_7, mL_8, mL_9, mL_10, mL_11, mL_12, mS_1, mS_2, mS_3, mS_4, mS_5, mS_6, mS_7, mS_8, mS_9, mS_10, mS_11, mS_12, m_gO, uA_s, uA_n, cI_lt, cI_eq, ↓reduceIte, if_true, if_false, Nat.lt_irrefl, eq_self, Nat.reduceEqDiff, or_true, true_or, or_false, false_or, not_false_eq_true, not_true_eq_false, ce_5, zb_t, zb_f, nr I h1, e1, hd0, Bool.not_false, Bool.false_eq_true]
  · have h1' : upd I 0 (nI 0) 1 = nI S.R := by rw [upd_ne (by omega)]; exact h1
    have h2' : upd I 0 (nI 0) 2 = nI S.C := by rw [upd_ne (by omega)]; exact h2
    cases e2 : okN b S.R
    · simp (disch := omega) only [ze_178_0, ze_178_1, ze_178_2, ze_178_5, ze_178_8, ze_178_9, ze_178_10, ze_178_13, ze_178_16, ze_178_17, ze_178_18, ze_178_19, ze_178_20, ze_178_23, ze_178_24, ze_178_25, ze_178_28, ze_178_31, ze_178_32, ze_178_35, ze_178_36, ze_178_37, ze_178_40, ze_178_43, ze_178_44, ze_178_45, ze_178_46, ze_178_49, ze_178_50, ze_178_53, ze_178_54, ze_178_55, ze_178_58, ze_178_61, ze_178_62, ze_178_63, ze_178_64, ze_178_65, ze_178_66, ze_178_69, ze_178_72, ze_178_73, ze_178_74, ze_178_77, ze_178_80, ze_178_81, ze_178_84, ze_178_85, ze_178_86, ze_178_89, z_k_r, z_push_s, z_push_n, okS_0, okS_I, okS_R, okS_A, List.getElem?_cons_zero, List.getElem?_cons_succ, List.length_cons, List.length_nil, List.set_cons_zero, List.set_cons_succ, true_and, and_true, z_tI, z_tB, pk_mul, nI_add, cI_cl, cI_ix, nar_0, nar_1, nar_b, Nat.reduceAdd, Nat.reduceLT, Nat.reduceMul, ↓mg_0, ↓mg_1, ↓mg_2, ↓mg_3, ↓mg_4, ↓mg_5, ↓mg_6, ↓mg_7, ↓mg_8, ↓mg_9, ↓mg_10, ↓mg_11, ↓mg_12, ↓mg_13, ↓mg_14, ↓mg_15, ↓mg_16, ↓mg_17, ↓mg_18, ↓mg_19, ↓mg_20, ↓mg_21, ↓mg_22, ↓mg_23, ↓mg_24, ↓mg_25, ↓mg_26, ↓mg_27, ↓mg_28, mp_0, mp_1, mp_2, mp_3, mp_4, mp_5, mp_6, mp_13, mp_14, mp_15, mp_16, mp_17, mp_18, mp_19, mp_20, mp_21, mp_23, mL_1, mL_2, mL_3, mL_4, mL_5, mL_6, mL_7, mL_8, mL_9, mL_10, mL_11, mL_12, mS_1, mS_2, mS_3, mS_4, mS_5, mS_6, mS_7, mS_8, mS_9, mS_10, mS_11, mS_12, m_gO, uA_s, uA_n, cI_lt, cI_eq, ↓reduceIte, if_true, if_false, Nat.lt_irrefl, eq_self, Nat.reduceEqDiff, or_true, true_or, or_false, false_or, not_false_eq_true, not_true_eq_false, ce_5, zb_t, zb_f, nr I h1, nr _ h1', e1, e2, hd0, Bool.not_false, Bool.not_true, Bool.false_eq_true, upd_upd]
    · have e3 : okN c S.C = false := by
        cases z : okN c S.C
        · rfl
        · exact absurd ⟨e1, e2, z⟩ h
      have w := wi_okN (x := c) (n := S.C) (by omega) (by omega)
      rw [e3] at w
      simp (disch := omega) only [ze_178_0, ze_178_1, ze_178_2, ze_178_5, ze_178_8, ze_178_9, ze_178_10, ze_178_13, ze_178_16, ze_178_17, ze_178_18, ze_178_19, ze_178_20, ze_178_23, ze_178_24, ze_178_25, ze_178_28, ze_178_31, ze_178_32, ze_178_35, ze_178_36, ze_178_37, ze_178_40, ze_178_43, ze_178_44, ze_178_45, ze_178_46, ze_178_49, ze_178_50, ze_178_53, ze_178_54, ze_178_55, ze_178_58, ze_178_61, ze_178_62, ze_178_63, ze_178_64, ze_178_65, ze_178_66, ze_178_69, ze_178_72, ze_178_73, ze_178_74, ze_178_77, ze_178_80, ze_178_81, ze_178_84, ze_178_85, ze_178_86, ze_178_89, z_k_r, z_push_s, z_push_n, okS_0, okS_I, okS_R, okS_A, List.getElem?_cons_zero, List.getElem?_cons_succ, List.length_cons, List.length_nil, List.set_cons_zero, List.set_cons_succ, true_and, and_true, z_tI, z_tB, pk_mul, nI_add, cI_cl, cI_ix, nar_0, nar_1, nar_b, Nat.reduceAdd, Nat.reduceLT, Nat.reduceMul, ↓mg_0, ↓mg_1, ↓mg_2, ↓mg_3, ↓mg_4, ↓mg_5, ↓mg_6, ↓mg_7, ↓mg_8, ↓mg_9, ↓mg_10, ↓mg_11, ↓mg_12, ↓mg_13, ↓mg_14, ↓mg_15, ↓mg_16, ↓mg_17, ↓mg_18, ↓mg_19, ↓mg_20, ↓mg_21, ↓mg_22, ↓mg_23, ↓mg_24, ↓mg_25, ↓mg_26, ↓mg_27, ↓mg_28, mp_0, mp_1, mp_2, mp_3, mp_4, mp_5, mp_6, mp_13, mp_14, mp_15, mp_16, mp_17, mp_18, mp_19, mp_20, mp_21, mp_23, mL_1, mL_2, mL_3, mL_4, mL_5, mL_6, mL_7, mL_8, mL_9, mL_10, mL_11, mL_12, mS_1, mS_2, mS_3, mS_4, mS_5, mS_6, mS_7, mS_8, mS_9, mS_10, mS_11, mS_12, m_gO, uA_s, uA_n, cI_lt, cI_eq, ↓reduceIte, if_true, if_false, Nat.lt_irrefl, eq_self, Nat.reduceEqDiff, or_true, true_or, or_false, false_or, not_false_eq_true, not_true_eq_false, ce_5, zb_t, zb_f, nr I h1, nr _ h1', e1, e2, hd0, Bool.not_false, Bool.not_true, Bool.false_eq_true, upd_upd, h2', m_within, w, thT]
theorem m_noCyc (hM : MH I A S) (hg : GI S) (hd : 2 < d) {a b c : Nat} (ha : a < S.R) (hb : b < S.R) (hc : c < S.C) : z_Ca g d 178 [.ref m, .int (nI a), .int (nI b), .int (nI c)] (mw f m I A, q) P = if a = b then P (.inr (some (.int (nI 1))), (mw f m (upd I 0 (nI 2)) A, q)) else if S.fl a = true ∧ S.fl b = true then P (.inr (some (.int (nI 0))), (mw f m (upd I 0 (nI 0)) A, q)) else P (.inr (some (.int (nI 1))), (mw f m (upd I 0 (nI 3)) A, q)) := by
  have hd0 : 0 < d := by omega
  have g1 := hg.R1
  have g2 := hg.RC
  have g3 := hg.C5
  have h1 := hM.1
  have h2 := hM.2.1
  have nr := fun (I : Nat → Int32) (h : I 1 = nI S.R) (x : Int32) P => m_noRow (g := g) (d := d - 1) (f := f) (q := q) (P := P) (m := m) (A := A) (by omega) (R := S.R) h (by omega) x
  have h1' : upd I 0 (nI 0) 1 = nI S.R := by rw [upd_ne (by omega)]; exact h1
  have h2' : upd I 0 (nI 0) 2 = nI S.C := by rw [upd_ne (by omega)]; exact h2
  have hM' := MH_upd (nI 0) (k := 0) (by omega) hM
  have o1 := okN_nI (by omega) ha
  have o2 := okN_nI (by omega) hb
  have o3 := okN_nI (by omega) hc
  have w := wi_okN (x := nI c) (n := S.C) (by omega) (by omega)
  rw [o3] at w
  rw [zn_178]
  simp (disch := omega) only [ze_178_0, ze_178_1, ze_178_2, ze_178_5, ze_178_8, ze_178_9, ze_178_10, ze_178_13, ze_178_16, ze_178_17, ze_178_18, ze_178_19, ze_178_20, ze_178_23, ze_178_24, ze_178_25, ze_178_28, ze_178_31, ze_178_32, ze_178_35, ze_178_36, ze_178_37, ze_178_40, ze_178_43, ze_178_44, ze_178_45, ze_178_46, ze_178_49, ze_178_50, ze_178_53, ze_178_54, ze_178_55, ze_178_58, ze_178_61, ze_178_62, ze_178_63, ze_178_64, ze_178_65, ze_178_66, ze_178_69, ze_178_72, ze_178_73, ze_178_74, ze_178_77, ze_178_80, ze_178_81, ze_178_84, ze_178_85, ze_178_86, ze_178_89, z_k_r, z_push_s, z_push_n, okS_0, okS_I, okS_R, okS_A, List.getElem?_cons_zero, List.getElem?_cons_succ, List.length_cons, List.length_nil, List.set_cons_zero, List.set_cons_succ, true_and, and_true, z_tI, z_tB, pk_mul, nI_add, cI_cl, cI_ix, nar_0, nar_1, nar_b, Nat.reduceAdd, Nat.reduceLT, Nat.reduceMul, ↓mg_0, ↓mg_1, ↓mg_2, ↓mg_3, ↓mg_4, ↓mg_5, ↓mg_6, ↓mg_7, ↓mg_8, ↓mg_9, ↓mg_10, ↓mg_11, ↓mg_12, ↓mg_13, ↓mg_14, ↓mg_15, ↓mg_16, ↓mg_17, ↓mg_18, ↓mg_19, ↓mg_20, ↓mg_21, ↓mg_22, ↓mg_23, ↓mg_24, ↓mg_25, ↓mg_26, ↓mg_27, ↓mg_28, mp_0, mp_1, mp_2, mp_3, mp_4, mp_5, mp_6, mp_13, mp_14, mp_15, mp_16, mp_17, mp_18, mp_19, mp_20, mp_21, mp_23, mL_1, mL_2, mL_3, mL_4, mL_5, mL_6, mL_7, mL_8, mL_9, mL_10, mL_11, mL_12, mS_1, mS_2, mS_3, mS_4, mS_5, mS_6, mS_7, mS_8, mS_9, mS_10, mS_11, mS_12, m_gO, uA_s, uA_n, cI_lt, cI_eq, ↓reduceIte, if_true, if_false, Nat.lt_irrefl, eq_self, Nat.reduceEqDiff, or_true, true_or, or_false, false_or, not_false_eq_true, not_true_eq_false, ce_5, zb_t, zb_f, nr I h1, nr _ h1', o1, o2, hd0, Bool.not_true, Bool.false_eq_true, upd_upd, h2', m_within, w, thF]
  by_cases e : a = b
  · simp (disch := omega) only [e, if_true, ze_178_0, ze_178_1, ze_178_2, ze_178_5, ze_178_8, ze_178_9, ze_178_10, ze_178_13, ze_178_16, ze_178_17, ze_178_18, ze_178_19, ze_178_20, ze_178_23, ze_178_24, ze_178_25, ze_178_28, ze_178_31, ze_178_32, ze_178_35, ze_178_36, ze_178_37, ze_178_40, ze_178_43, ze_178_44, ze_178_45, ze_178_46, ze_178_49, ze_178_50, ze_178_53, ze_178_54, ze_178_55, ze_178_58, ze_178_61, ze_178_62, ze_178_63, ze_178_64, ze_178_65, ze_178_66, ze_178_69, ze_178_72, ze_178_73, ze_178_74, ze_178_77, ze_178_80, ze_178_81, ze_178_84, ze_178_85, ze_178_86, ze_178_89, z_k_r, z_push_s, z_push_n, okS_0, okS_I, okS_R, okS_A, List.getElem?_cons_zero, List.getElem?_cons_succ, List.length_cons, List.length_nil, List.set_cons_zero, List.set_cons_succ, true_and, and_true, z_tI, z_tB, pk_mul, nI_add, cI_cl, cI_ix, nar_0, nar_1, nar_b, Nat.reduceAdd, Nat.reduceLT, Nat.reduceMul, ↓mg_0, ↓mg_1, ↓mg_2, ↓mg_3, ↓mg_4, ↓mg_5, ↓mg_6, ↓mg_7, ↓mg_8, ↓mg_9, ↓mg_10, ↓mg_11, ↓mg_12, ↓mg_13, ↓mg_14, ↓mg_15, ↓mg_16, ↓mg_17, ↓mg_18, ↓mg_19, ↓mg_20, ↓mg_21, ↓mg_22, ↓mg_23, ↓mg_24, ↓mg_25, ↓mg_26, ↓mg_27, ↓mg_28, mp_0, mp_1, mp_2, mp_3, mp_4, mp_5, mp_6, mp_13, mp_14, mp_15, mp_16, mp_17, mp_18, mp_19, mp_20, mp_21, mp_23, mL_1, mL_2, mL_3, mL_4, mL_5, mL_6, mL_7, mL_8, mL_9, mL_10, mL_11, mL_12, mS_1, mS_2, mS_3, mS_4, mS_5, mS_6, mS_7, mS_8, mS_9, mS_10, mS_11, mS_12, m_gO, uA_s, uA_n, cI_lt, cI_eq, ↓reduceIte, if_true, if_false, Nat.lt_irrefl, eq_self, Nat.reduceEqDiff, or_true, true_or, or_false, false_or, not_false_eq_true, not_true_eq_false, ce_5, zb_t, zb_f, thT, hd0]
  · simp (disch := omega) only [e, if_false, ze_178_0, ze_178_1, ze_178_2, ze_178_5, ze_178_8, ze_178_9, ze_178_10, ze_178_13, ze_178_16, ze_178_17, ze_178_18, ze_178_19, ze_178_20, ze_178_23, ze_178_24, ze_178_25, ze_178_28, ze_178_31, ze_178_32, ze_178_35, ze_178_36, ze_178_37, ze_178_40, ze_178_43, ze_178_44, ze_178_45, ze_178_46, ze_178_49, ze_178_50, ze_178_53, ze_178_54, ze_178_55, ze_178_58, ze_178_61, ze_178_62, ze_178_63, ze_178_64, ze_178_65, ze_178_66, ze_178_69, ze_178_72, ze_178_73, ze_178_74, ze_178_77, ze_178_80, ze_178_81, ze_178_84, ze_178_85, ze_178_86, ze_178_89, z_k_r, z_push_s, z_push_n, okS_0, okS_I, okS_R, okS_A, List.getElem?_cons_zero, List.getElem?_cons_succ, List.length_cons, List.length_nil, List.set_cons_zero, List.set_cons_succ, true_and, and_true, z_tI, z_tB, pk_mul, nI_add, cI_cl, cI_ix, nar_0, nar_1, nar_b, Nat.reduceAdd, Nat.reduceLT, Nat.reduceMul, ↓mg_0, ↓mg_1, ↓mg_2, ↓mg_3, ↓mg_4, ↓mg_5, ↓mg_6, ↓mg_7, ↓mg_8, ↓mg_9, ↓mg_10, ↓mg_11, ↓mg_12, ↓mg_13, ↓mg_14, ↓mg_15, ↓mg_16, ↓mg_17, ↓mg_18, ↓mg_19, ↓mg_20, ↓mg_21, ↓mg_22, ↓mg_23, ↓mg_24, ↓mg_25, ↓mg_26, ↓mg_27, ↓mg_28, mp_0, mp_1, mp_2, mp_3, mp_4, mp_5, mp_6, mp_13, mp_14, mp_15, mp_16, mp_17, mp_18, mp_19, mp_20, mp_21, mp_23, mL_1, mL_2, mL_3, mL_4, mL_5, mL_6, mL_7, mL_8, mL_9, mL_10, mL_11, mL_12, mS_1, mS_2, mS_3, mS_4, mS_5, mS_6, mS_7, mS_8, mS_9, mS_10, mS_11, mS_12, m_gO, uA_s, uA_n, cI_lt, cI_eq, ↓reduceIte, if_true, if_false, Nat.lt_irrefl, eq_self, Nat.reduceEqDiff, or_true, true_or, or_false, false_or, not_false_eq_true, not_true_eq_false, ce_5, zb_t, zb_f, thF, hd0, m_isFull hM' hg, zb_0]
    cases e1 : S.fl a
    · simp (disch := omega) only [if_true, if_false, ze_178_0, ze_178_1, ze_178_2, ze_178_5, ze_178_8, ze_178_9, ze_178_10, ze_178_13, ze_178_16, ze_178_17, ze_178_18, ze_178_19, ze_178_20, ze_178_23, ze_178_24, ze_178_25, ze_178_28, ze_178_31, ze_178_32, ze_178_35, ze_178_36, ze_178_37, ze_178_40, ze_178_43, ze_178_44, ze_178_45, ze_178_46, ze_178_49, ze_178_50, ze_178_53, ze_178_54, ze_178_55, ze_178_58, ze_178_61, ze_178_62, ze_178_63, ze_178_64, ze_178_65, ze_178_66, ze_178_69, ze_178_72, ze_178_73, ze_178_74, ze_178_77, ze_178_80, ze_178_81, ze_178_84, ze_178_85, ze_178_86, ze_178_89, z_k_r, z_push_s, z_push_n, okS_0, okS_I, okS_R, okS_A, List.getElem?_cons_zero, List.getElem?_cons_succ, List.length_cons, List.length_nil, List.set_cons_zero, List.set_cons_succ, true_and, and_true, z_tI, z_tB, pk_mul, nI_add, cI_cl, cI_ix, nar_0, nar_1, nar_b, Nat.reduceAdd, Nat.reduceLT, Nat.reduceMul, ↓mg_0, ↓mg_1, ↓mg_2, ↓mg_3, ↓mg_4, ↓mg_5, ↓mg_6, ↓mg_7, ↓mg_8, ↓mg_9, ↓mg_10, ↓mg_11, ↓mg_12, ↓mg_13, ↓mg_14, ↓mg_15, ↓mg_16, ↓mg_17, ↓mg_18, ↓mg_19, ↓mg_20, ↓mg_21, ↓mg_22, ↓mg_23, ↓mg_24, ↓mg_25, ↓mg_26, ↓mg_27, ↓mg_28, mp_0, mp_1, mp_2, mp_3, mp_4, mp_5, mp_6, mp_13, mp_14, mp_15, mp_16, mp_17, mp_18, mp_19, mp_20, mp_21, mp_23, mL_1, mL_2, mL_3, mL_4, mL_5, mL_6, mL_7, mL_8, mL_9, mL_10, mL_11, mL_12, mS_1, mS_2, mS_3, mS_4, mS_5, mS_6, mS_7, mS_8, mS_9, mS_10, mS_11, mS_12, m_gO, uA_s, uA_n, cI_lt, cI_eq, ↓reduceIte, if_true, if_false, Nat.lt_irrefl, eq_self, Nat.reduceEqDiff, or_true, true_or, or_false, false_or, not_false_eq_true, not_true_eq_false, ce_5, zb_t, zb_f, thT, hd0, Bool.false_eq_true, false_and]
    · simp (disch := omega) only [if_true, if_false, ze_178_0, ze_178_1, ze_178_2, ze_178_5, ze_178_8, ze_178_9, ze_178_10, ze_178_13, ze_178_16, ze_178_17, ze_178_18, ze_178_19, ze_178_20, ze_178_23, ze_178_24, ze_178_25, ze_178_28, ze_178_31, ze_178_32, ze_178_35, ze_178_36, ze_178_37, ze_178_40, ze_178_43, ze_178_44, ze_178_45, ze_178_46, ze_178_49, ze_178_50, ze_178_53, ze_178_54, ze_178_55, ze_178_58, ze_178_61, ze_178_62, ze_178_63, ze_178_64, ze_178_65, ze_178_66, ze_178_69, ze_178_72, ze_178_73, ze_178_74, ze_178_77, ze_178_80, ze_178_81, ze_178_84, ze_178_85, ze_178_86, ze_178_89, z_k_r, z_push_s, z_push_n, okS_0, okS_I, okS_R, okS_A, List.getElem?_cons_zero, List.getElem?_cons_succ, List.length_cons, List.length_nil, List.set_cons_zero, List.set_cons_succ, true_and, and_true, z_tI, z_tB, pk_mul, nI_add, cI_cl, cI_ix, nar_0, nar_1, nar_b, Nat.reduceAdd, Nat.reduceLT, Nat.reduceMul, ↓mg_0, ↓mg_1, ↓mg_2, ↓mg_3, ↓mg_4, ↓mg_5, ↓mg_6, ↓mg_7, ↓mg_8, ↓mg_9, ↓mg_10, ↓mg_11, ↓mg_12, ↓mg_13, ↓mg_14, ↓mg_15, ↓mg_16, ↓mg_17, ↓mg_18, ↓mg_19, ↓mg_20, ↓mg_21, ↓mg_22, ↓mg_23, ↓mg_24, ↓mg_25, ↓mg_26, ↓mg_27, ↓mg_28, mp_0, mp_1, mp_2, mp_3, mp_4, mp_5, mp_6, mp_13, mp_14, mp_15, mp_16, mp_17, mp_18, mp_19, mp_20, mp_21, mp_23, mL_1, mL_2, mL_3, mL_4, mL_5, mL_6, mL_7, mL_8, mL_9, mL_10, mL_11, mL_12, mS_1, mS_2, mS_3, mS_4, mS_5, mS_6, mS_7, mS_8, mS_9, mS_10, mS_11, mS_12, m_gO, uA_s, uA_n, cI_lt, cI_eq, ↓reduceIte, if_true, if_false, Nat.lt_irrefl, eq_self, Nat.reduceEqDiff, or_true, true_or, or_false, false_or, not_false_eq_true, not_true_eq_false, ce_5, zb_t, zb_f, hd0, Bool.true_eq_false, true_and, m_isFull hM' hg, zb_0]
      cases e2 : S.fl b
      · simp (disch := omega) only [if_true, if_false, ze_178_0, ze_178_1, ze_178_2, ze_178_5, ze_178_8, ze_178_9, ze_178_10, ze_178_13, ze_178_16, ze_178_17, ze_178_18, ze_178_19, ze_178_20, ze_178_23, ze_178_24, ze_178_25, ze_178_28, ze_178_31, ze_178_32, ze_178_35, ze_178_36, ze_178_37, ze_178_40, ze_178_43, ze_178_44, ze_178_45, ze_178_46, ze_178_49, ze_178_50, ze_178_53, ze_178_54, ze_178_55, ze_178_58, ze_178_61, ze_178_62, ze_178_63, ze_178_64, ze_178_65, ze_178_66, ze_178_69, ze_178_72, ze_178_73, ze_178_74, ze_178_77, ze_178_80, ze_178_81, ze_178_84, ze_178_85, ze_178_86, ze_178_89, z_k_r, z_push_s, z_push_n, okS_0, okS_I, okS_R, okS_A, List.getElem?_cons_zero, List.getElem?_cons_succ, List.length_cons, List.length_nil, List.set_cons_zero, List.set_cons_succ, true_and, and_true, z_tI, z_tB, pk_mul, nI_add, cI_cl, cI_ix, nar_0, nar_1, nar_b, Nat.reduceAdd, Nat.reduceLT, Nat.reduceMul, ↓mg_0, ↓mg_1, ↓mg_2, ↓mg_3, ↓mg_4, ↓mg_5, ↓mg_6, ↓mg_7, ↓mg_8, ↓mg_9, ↓mg_10, ↓mg_11, ↓mg_12, ↓mg_13, ↓mg_14, ↓mg_15, ↓mg_16, ↓mg_17, ↓mg_18, ↓mg_19, ↓mg_20, ↓mg_21, ↓mg_22, ↓mg_23, ↓mg_24, ↓mg_25, ↓mg_26, ↓mg_27, ↓mg_28, mp_0, mp_1, mp_2, mp_3, mp_4, mp_5, mp_6, mp_13, mp_14, mp_15, mp_16, mp_17, mp_18, mp_19, mp_20, mp_21, mp_23, mL_1, mL_2, mL_3, mL_4, mL_5, mL_6, mL_7, mL_8, mL_9, mL_10, mL_11, mL_12, mS_1, mS_2, mS_3, mS_4, mS_5, mS_6, mS_7, mS_8, mS_9, mS_10, mS_11, mS_12, m_gO, uA_s, uA_n, cI_lt, cI_eq, ↓reduceIte, if_true, if_false, Nat.lt_irrefl, eq_self, Nat.reduceEqDiff, or_true, true_or, or_false, false_or, not_false_eq_true, not_true_eq_false, ce_5, zb_t, zb_f, thT, hd0, Bool.false_eq_true]
      · simp (disch := omega) only [if_true, if_false, ze_178_0, ze_178_1, ze_178_2, ze_178_5, ze_178_8, ze_178_9, ze_178_10, ze_178_13, ze_178_16, ze_178_17, ze_178_18, ze_178_19, ze_178_20, ze_178_23, ze_178_24, ze_178_25, ze_178_28, ze_178_31, ze_178_32, ze_178_35, ze_178_36, ze_178_37, ze_178_40, ze_178_43, ze_178_44, ze_178_45, ze_178_46, ze_178_49, ze_178_50, ze_178_53, ze_178_54, ze_178_55, ze_178_58, ze_178_61, ze_178_62, ze_178_63, ze_178_64, ze_178_65, ze_178_66, ze_178_69, ze_178_72, ze_178_73, ze_178_74, ze_178_77, ze_178_80, ze_178_81, ze_178_84, ze_178_85, ze_178_86, ze_178_89, z_k_r, z_push_s, z_push_n, okS_0, okS_I, okS_R, okS_A, List.getElem?_cons_zero, List.getElem?_cons_succ, List.length_cons, List.length_nil, List.set_cons_zero, List.set_cons_succ, true_and, and_true, z_tI, z_tB, pk_mul, nI_add, cI_cl, cI_ix, nar_0, nar_1, nar_b, Nat.reduceAdd, Nat.reduceLT, Nat.reduceMul, ↓mg_0, ↓mg_1, ↓mg_2, ↓mg_3, ↓mg_4, ↓mg_5, ↓mg_6, ↓mg_7, ↓mg_8, ↓mg_9, ↓mg_10, ↓mg_11, ↓mg_12, ↓mg_13, ↓mg_14, ↓mg_15, ↓mg_16, ↓mg_17, ↓mg_18, ↓mg_19, ↓mg_20, ↓mg_21, ↓mg_22, ↓mg_23, ↓mg_24, ↓mg_25, ↓mg_26, ↓mg_27, ↓mg_28, mp_0, mp_1, mp_2, mp_3, mp_4, mp_5, mp_6, mp_13, mp_14, mp_15, mp_16, mp_17, mp_18, mp_19, mp_20, mp_21, mp_23, mL_1, mL_2, mL_3, mL_4, mL_5, mL_6, mL_7, mL_8, mL_9, mL_10, mL_11, mL_12, mS_1, mS_2, mS_3, mS_4, mS_5, mS_6, mS_7, mS_8, mS_9, mS_10, mS_11, mS_12, m_gO, uA_s, uA_n, cI_lt, cI_eq, ↓reduceIte, if_true, if_false, Nat.lt_irrefl, eq_self, Nat.reduceEqDiff, or_true, true_or, or_false, false_or, not_false_eq_true, not_true_eq_false, ce_5, zb_t, zb_f, thF, hd0, Bool.true_eq_false]
end
theorem GI_take {S : GS} (hg : GI S) {r j : Nat} : GI (S.take r j) := by
  have cc : (S.take r j).c = nu S.c (r * 5 + j) 5 := rfl
  have key : ∀ k, (S.take r j).c k ≠ 5 → (S.take r j).c k = S.c k := fun k hk => by
    rw [cc] at hk ⊢
    unfold nu at hk ⊢
    split at hk
    · exact absurd rfl hk
    · next e => rw [if_neg e]
  refine ⟨hg.R1, hg.RC, hg.C2, hg.C5, fun k => ?_, fun k hk => ?_, fun r' j' a1 a2 a3 => ?_, fun r' j' j'' a1 a2 a3 a4 a5 => ?_, fun r' r'' j' a1 a2 a3 a4 a5 => ?_⟩
  · rw [cc]; unfold nu
    split
    · omega
    · exact hg.c5 k
  · rw [key k hk]
    rw [key k hk] at hk
    exact hg.sy k hk
  · rw [cc]; unfold nu
    split
    · rfl
    · exact hg.out r' j' a1 a2 a3
  · have z2 : (S.take r j).c (r' * 5 + j'') ≠ 5 := by rw [← a4]; exact a5
    rw [key _ a5, key _ z2] at a4
    rw [key _ a5] at a5
    exact hg.row r' j' j'' a1 a2 a3 a4 a5
  · have z2 : (S.take r j).c (r'' * 5 + j') ≠ 5 := by rw [← a4]; exact a5
    rw [key _ a5, key _ z2] at a4
    rw [key _ a5] at a5
    exact hg.col r' r'' j' a1 a2 a3 a4 a5
/-- two rows switched -/
def GS.swc (S : GS) (a b : Nat) (Z : Nat → Bool) : GS := S.sc (exn S.c a b Z S.C)
theorem exn_a {c : Nat → Nat} {a b n x : Nat} {Z : Nat → Bool} (hx : x < n) (h5 : n ≤ 5) : exn c a b Z n (a * 5 + x) = if Z x = true then c (b * 5 + x) else if a = b ∧ Z x = true then c (a * 5 + x) else c (a * 5 + x) := by
  unfold exn
  rw [show (a * 5 + x) / 5 = a by omega, show (a * 5 + x) % 5 = x by omega]
  by_cases e : Z x = true
  · rw [if_pos ⟨rfl, hx, e⟩, if_pos e]
  · rw [if_neg (fun z => e z.2.2), if_neg (fun z => e z.2.2), if_neg e, if_neg (fun z => e z.2)]
theorem exn_b {c : Nat → Nat} {a b n x : Nat} {Z : Nat → Bool} (hx : x < n) (h5 : n ≤ 5) (hab : a ≠ b) : exn c a b Z n (b * 5 + x) = if Z x = true then c (a * 5 + x) else c (b * 5 + x) := by
  unfold exn
  rw [show (b * 5 + x) / 5 = b by omega, show (b * 5 + x) % 5 = x by omega, if_neg (fun z => hab z.1.symm)]
  by_cases e : Z x = true
  · rw [if_pos ⟨rfl, hx, e⟩, if_pos e]
  · rw [if_neg (fun z => e z.2.2), if_neg e]
theorem exn_o {c : Nat → Nat} {a b n k : Nat} {Z : Nat → Bool} (h : (k / 5 ≠ a ∧ k / 5 ≠ b) ∨ n ≤ k % 5) : exn c a b Z n k = c k := by
  unfold exn
  rw [if_neg (by omega), if_neg (by omega)]
theorem exn_a2 {c : Nat → Nat} {a b n x : Nat} {Z : Nat → Bool} (hx : x < n) (h5 : n ≤ 5) : exn c a b Z n (a * 5 + x) = if Z x = true then c (b * 5 + x) else c (a * 5 + x) := by
  rw [exn_a hx h5]
  by_cases e : Z x = true
  · rw [if_pos e, if_pos e]
  · rw [if_neg e, if_neg e, if_neg (fun z => e z.2)]
theorem GI_swc {S : GS} (hg : GI S) {a b c : Nat} (ha : a < S.R) (hb : b < S.R) (hab : a ≠ b) (fa : S.fl a = true) (fb : S.fl b = true) (hc : c < S.C) : GI (S.swc a b (S.cyc a b c)) ∧ (S.swc a b (S.cyc a b c)).fl a = true ∧ (S.swc a b (S.cyc a b c)).fl b = true ∧ (∀ k, k < 25 → ((S.swc a b (S.cyc a b c)).c k = 5 ↔ S.c k = 5)) := by
  have hC := hg.C5
  have hR := hg.RC
  have ha5 : a < 5 := by omega
  have hb5 : b < 5 := by omega
  have cc : (S.swc a b (S.cyc a b c)).c = exn S.c a b (S.cyc a b c) S.C := rfl
  have hπ : ∀ c, c < S.C → S.pi a b c < S.C := fun c hc => (pi_sp hg ha5 hb5 fa fb hc).1
  have hi : ∀ c c', c < S.C → c' < S.C → S.pi a b c = S.pi a b c' → c = c' := fun c c' x y z => pi_inj hg ha5 hb5 fa fb x y z
  have va : ∀ x, x < S.C → exn S.c a b (S.cyc a b c) S.C (a * 5 + x) = if S.cyc a b c x = true then S.c (b * 5 + x) else S.c (a * 5 + x) := fun x hx => exn_a2 hx hC
  have vb : ∀ x, x < S.C → exn S.c a b (S.cyc a b c) S.C (b * 5 + x) = if S.cyc a b c x = true then S.c (a * 5 + x) else S.c (b * 5 + x) := fun x hx => exn_b hx hC hab
  have fA := fl_iff.mp fa
  have fB := fl_iff.mp fb
  have ea : ∀ k, k < 25 → (exn S.c a b (S.cyc a b c) S.C k = 5 ↔ S.c k = 5) := fun k hk => by
    by_cases e : k % 5 < S.C
    · by_cases e1 : k / 5 = a
      · rw [show k = a * 5 + k % 5 by omega, va _ e]
        have := fA _ e
        have := fB _ e
        split <;> simp_all
      · by_cases e2 : k / 5 = b
        · rw [show k = b * 5 + k % 5 by omega, vb _ e]
          have := fA _ e
          have := fB _ e
          split <;> simp_all
        · rw [exn_o (Or.inl ⟨e1, e2⟩)]
    · rw [exn_o (Or.inr (by omega))]
  have pre : ∀ y, y < S.C → S.cyc a b c (S.pi a b y) = S.cyc a b c y := fun y hy => OB_pre hπ hC hi hc hy
  -- a symbol of row b at x stands in row a at pi x
  have meet : ∀ x y, x < S.C → y < S.C → S.c (b * 5 + x) = S.c (a * 5 + y) → S.pi a b x = y := fun x y hx hy e => by
    have p := (pi_sp hg ha5 hb5 fa fb hx).2.1
    have px := hπ x hx
    rw [e] at p
    exact hg.row a _ _ ha5 (by omega) (by omega) p (by rw [p]; exact fA y hy)
  refine ⟨⟨hg.R1, hg.RC, hg.C2, hg.C5, fun k => ?_, fun k hk => ?_, fun r' j' a1 a2 a3 => ?_, fun r' j' j'' a1 a2 a3 a4 a5 => ?_, fun r' r'' j' a1 a2 a3 a4 a5 => ?_⟩, fl_iff.mpr (fun j hj => ?_), fl_iff.mpr (fun j hj => ?_), fun k hk => by rw [cc]; exact ea k hk⟩
  · rw [cc]; unfold exn
    split
    · exact hg.c5 _
    · split
      · exact hg.c5 _
      · exact hg.c5 _
  · rw [cc] at hk ⊢
    show _ < S.C
    unfold exn at hk ⊢
    split
    · next h => rw [if_pos h] at hk; exact hg.sy _ hk
    · next h =>
      rw [if_neg h] at hk
      split
      · next h2 => rw [if_pos h2] at hk; exact hg.sy _ hk
      · next h2 => rw [if_neg h2] at hk; exact hg.sy _ hk
  · have a3' : S.R ≤ r' ∨ S.C ≤ j' := a3
    rw [cc, exn_o (by omega)]
    exact hg.out r' j' a1 a2 a3'
  · rw [cc] at a4 a5
    have o1 : j' < S.C := by
      apply Classical.byContradiction
      intro z
      rw [exn_o (Or.inr (by omega)), hg.out r' j' a1 a2 (Or.inr (by omega))] at a5
      exact a5 rfl
    have o2 : j'' < S.C := by
      apply Classical.byContradiction
      intro z
      rw [a4, exn_o (Or.inr (by omega)), hg.out r' j'' a1 a3 (Or.inr (by omega))] at a5
      exact a5 rfl
    by_cases e1 : r' = a
    · subst e1
      rw [va _ o1, va _ o2] at a4
      by_cases z1 : S.cyc r' b c j' = true
      · rw [if_pos z1] at a4
        by_cases z2 : S.cyc r' b c j'' = true
        · rw [if_pos z2] at a4
          exact hg.row b j' j'' hb5 a2 a3 a4 (fB _ o1)
        · rw [if_neg z2] at a4
          have := pre j' o1
          rw [meet j' j'' o1 o2 a4, z1] at this
          exact absurd this z2
      · rw [if_neg z1] at a4
        by_cases z2 : S.cyc r' b c j'' = true
        · rw [if_pos z2] at a4
          have := pre j'' o2
          rw [meet j'' j' o2 o1 a4.symm, z2] at this
          exact absurd this z1
        · rw [if_neg z2] at a4
          exact hg.row r' j' j'' a1 a2 a3 a4 (fA _ o1)
    · by_cases e2 : r' = b
      · subst e2
        rw [vb _ o1, vb _ o2] at a4
        by_cases z1 : S.cyc a r' c j' = true
        · rw [if_pos z1] at a4
          by_cases z2 : S.cyc a r' c j'' = true
          · rw [if_pos z2] at a4
            exact hg.row a j' j'' ha5 a2 a3 a4 (fA _ o1)
          · rw [if_neg z2] at a4
            have := pre j'' o2
            rw [meet j'' j' o2 o1 a4.symm, z1] at this
            exact absurd this.symm z2
        · rw [if_neg z1] at a4
          by_cases z2 : S.cyc a r' c j'' = true
          · rw [if_pos z2] at a4
            have := pre j' o1
            rw [meet j' j'' o1 o2 a4, z2] at this
            exact absurd this.symm z1
          · rw [if_neg z2] at a4
            exact hg.row r' j' j'' a1 a2 a3 a4 (fB _ o1)
      · rw [exn_o (by omega)] at a4 a5
        rw [exn_o (by omega)] at a4
        exact hg.row r' j' j'' a1 a2 a3 a4 a5
  · rw [cc] at a4 a5
    have o1 : j' < S.C := by
      apply Classical.byContradiction
      intro z
      rw [exn_o (Or.inr (by omega)), hg.out r' j' a1 a3 (Or.inr (by omega))] at a5
      exact a5 rfl
    -- where a value came from
    have src : ∀ r, r < 5 → exn S.c a b (S.cyc a b c) S.C (r * 5 + j') = S.c ((if S.cyc a b c j' = true then (if r = a then b else if r = b then a else r) else r) * 5 + j') := fun r hr => by
      by_cases z : S.cyc a b c j' = true
      · rw [if_pos z]
        by_cases e1 : r = a
        · rw [if_pos e1, e1, va _ o1, if_pos z]
        · rw [if_neg e1]
          by_cases e2 : r = b
          · rw [if_pos e2, e2, vb _ o1, if_pos z]
          · rw [if_neg e2, exn_o (by omega)]
      · rw [if_neg z]
        by_cases e1 : r = a
        · rw [e1, va _ o1, if_neg z]
        · by_cases e2 : r = b
          · rw [e2, vb _ o1, if_neg z]
          · rw [exn_o (by omega)]
    rw [src r' a1] at a4 a5
    rw [src r'' a2] at a4
    have := hg.col _ _ j' (by split <;> (try split) <;> (try split) <;> omega) (by split <;> (try split) <;> (try split) <;> omega) a3 a4 a5
    split at this <;> (try split at this) <;> (try split at this) <;> (try split at this) <;> (try split at this) <;> omega
  · rw [cc]
    exact fun z => fA j hj ((ea (a * 5 + j) (by have : S.C ≤ 5 := hC; have : j < S.C := hj; omega)).mp z)
  · rw [cc]
    exact fun z => fB j hj ((ea (b * 5 + j) (by have : S.C ≤ 5 := hC; have : j < S.C := hj; omega)).mp z)
theorem nF_iff {c c' : Nat → Nat} : ∀ n, (∀ k, k < n → (c k = 5 ↔ c' k = 5)) → nF c n = nF c' n
  | 0, _ => rfl
  | n + 1, h => by
    unfold nF
    rw [nF_iff n (fun k hk => h k (by omega))]
    have := h n (by omega)
    by_cases e : c n = 5
    · rw [if_pos e, if_pos (this.mp e)]
    · rw [if_neg e, if_neg (fun z => e (this.mpr z))]
