/-! the text that the law writes, as the grammar reads it -/
section
variable {tb : Nat → Nat} {e : Nat}
theorem run_len {c : Nat → Bool} : ∀ (L k p : Nat), (∀ i, i < L → c (tb (p + i)) = true) → c (tb (p + L)) = false → run tb c (L + (k + 1)) p = p + L
  | 0, k, p, _, h2 => by
    rw [Nat.zero_add]
    exact run_f h2
  | L + 1, k, p, h1, h2 => by
    have h0 := h1 0 (by omega)
    rw [Nat.add_zero] at h0
    rw [show L + 1 + (k + 1) = (L + (k + 1)) + 1 by omega, run_t h0, run_len L k (p + 1) (fun i hi => by rw [show p + 1 + i = p + (i + 1) by omega]; exact h1 (i + 1) (by omega)) (by rw [show p + 1 + L = p + (L + 1) by omega]; exact h2)]
    omega
theorem tk_num {p c : Nat} (h : p + 3 ≤ e) (h0 : tb p = 32) (h1 : tb (p + 1) = 48 + c) (hc : c < 10) (h2 : dgi (tb (p + 2)) = false) : tS tb e p = p + 1 ∧ tN tb e p = p + 2 ∧ tK tb e p = 3 ∧ tV tb e p = c := by
  have w1 : wsp (tb (p + 1)) = false := by
    rw [h1]
    unfold wsp
    rw [decide_eq_false (by omega), decide_eq_false (by omega)]
    rfl
  have s : tS tb e p = p + 1 := by
    have := run_len (tb := tb) (c := wsp) 1 (e - p - 2) p (fun i hi => by rw [show p + i = p by omega, h0]; rfl) w1
    unfold tS
    rw [show e - p = 1 + (e - p - 2 + 1) by omega, this]
  have l1 : ltr (tb (p + 1)) = false := by
    rw [h1]
    unfold ltr
    rw [decide_eq_false (by omega)]
    rfl
  have d1 : dgi (tb (p + 1)) = true := by
    rw [h1]
    unfold dgi
    rw [decide_eq_true (by omega), decide_eq_true (by omega)]
    rfl
  have n : tN tb e p = p + 2 := by
    have := run_len (tb := tb) (c := dgi) 1 (e - (p + 1) - 2) (p + 1) (fun i hi => by rw [show p + 1 + i = p + 1 by omega]; exact d1) h2
    unfold tN
    rw [s, if_neg (by omega), if_neg (by rw [l1]; exact Bool.false_ne_true), if_pos d1, show e - (p + 1) = 1 + (e - (p + 1) - 2 + 1) by omega, this]
  refine ⟨s, n, ?_, ?_⟩
  · unfold tK
    rw [s, n, if_neg (by omega), if_neg (by rw [l1]; exact Bool.false_ne_true), if_pos d1, if_pos (by omega)]
  · unfold tV
    rw [s, n, if_pos (by omega), h1]
    omega
theorem tk_semi {p : Nat} (h : p < e) (h0 : tb p = 59) : tS tb e p = p ∧ tN tb e p = p + 1 ∧ tK tb e p = 4 := by
  have s : tS tb e p = p := by
    have := run_len (tb := tb) (c := wsp) 0 (e - p - 1) p (fun i hi => absurd hi (Nat.not_lt_zero i)) (by rw [Nat.add_zero, h0]; rfl)
    unfold tS
    rw [show e - p = 0 + (e - p - 1 + 1) by omega, this]
    rfl
  have l : ltr (tb p) = false := by rw [h0]; rfl
  have d : dgi (tb p) = false := by rw [h0]; rfl
  refine ⟨s, ?_, ?_⟩
  · unfold tN
    rw [s, if_neg (by omega), if_neg (by rw [l]; exact Bool.false_ne_true), if_neg (by rw [d]; exact Bool.false_ne_true)]
  · unfold tK
    rw [s, if_neg (by omega), if_neg (by rw [l]; exact Bool.false_ne_true), if_neg (by rw [d]; exact Bool.false_ne_true), if_pos h0]
theorem tk_word {p L : Nat} (h : p + L < e) (hL : 1 ≤ L) (hL9 : L ≤ 9) (h1 : ∀ i, i < L → ltr (tb (p + i)) = true) (h2 : tb (p + L) = 32) : tS tb e p = p ∧ tN tb e p = p + L ∧ tK tb e p = 2 := by
  have l0 := h1 0 (by omega)
  rw [Nat.add_zero] at l0
  have w0 : wsp (tb p) = false := by
    unfold ltr at l0
    rw [Bool.and_eq_true, decide_eq_true_eq, decide_eq_true_eq] at l0
    unfold wsp
    rw [decide_eq_false (by omega), decide_eq_false (by omega)]
    rfl
  have s : tS tb e p = p := by
    have := run_len (tb := tb) (c := wsp) 0 (e - p - 1) p (fun i hi => absurd hi (Nat.not_lt_zero i)) (by rw [Nat.add_zero]; exact w0)
    unfold tS
    rw [show e - p = 0 + (e - p - 1 + 1) by omega, this]
    rfl
  have n : tN tb e p = p + L := by
    have := run_len (tb := tb) (c := ltr) L (e - p - L - 1) p h1 (by rw [h2]; rfl)
    unfold tN
    rw [s, if_neg (by omega), if_pos l0, show e - p = L + (e - p - L - 1 + 1) by omega, this]
  refine ⟨s, n, ?_⟩
  unfold tK
  rw [s, n, if_neg (by omega), if_pos l0, if_pos (by omega)]
theorem tk_end {p : Nat} (h : e ≤ p) : tK tb e p = 0 := by
  have s : tS tb e p = p := by
    unfold tS
    rw [show e - p = 0 by omega]
    rfl
  unfold tK
  rw [s, if_pos h]
/-- literal k with a space behind it -/
def lw9 (k : Nat) : Nat := if k = 0 then 3 else if k = 1 then 5 else 4
theorem lw_a : ∀ k, k < 3 → (z_lit (lw9 k)).length = (z_lit k).length + 1 ∧ 1 ≤ (z_lit k).length ∧ (z_lit k).length ≤ 9 ∧ lb (lw9 k) (z_lit k).length = 32 ∧ ∀ i, i < (z_lit k).length → ltr (lb (lw9 k) i) = true ∧ bs (lb (lw9 k) i) = (z_lit k).getD i 0 := by decide +kernel
theorem lw_b : (z_lit 1).length = 3 ∧ (z_lit 2).length = 5 ∧ (z_lit 0).length = 9 := by decide +kernel
theorem tk_lit {p k : Nat} (hk : k < 3) (h : p + (z_lit k).length < e) (hu : ∀ i, i < (z_lit k).length + 1 → tb (p + i) = lb (lw9 k) i) : tS tb e p = p ∧ tN tb e p = p + (z_lit k).length ∧ tK tb e p = 2 ∧ isW tb e p k = true ∧ (∀ k', (z_lit k').length ≠ (z_lit k).length → isW tb e p k' = false) := by
  obtain ⟨a1, a2, a3, a4, a5⟩ := lw_a k hk
  obtain ⟨b1, b2, b3⟩ := tk_word (tb := tb) (e := e) (p := p) (L := (z_lit k).length) h a2 a3 (fun i hi => by rw [hu i (by omega)]; exact (a5 i hi).1) (by rw [hu _ (by omega)]; exact a4)
  refine ⟨b1, b2, b3, ?_, fun k' hk' => ?_⟩
  · unfold isW
    rw [b1, b2, b3, decide_eq_true rfl, decide_eq_true (by omega), Bool.true_and, Bool.true_and]
    have : anyB (fun i => !decide (bs (tb (p + i)) = (z_lit k).getD i 0)) (z_lit k).length = false := any_f.mpr fun i hi => by
      rw [hu i (by omega), (a5 i hi).2, decide_eq_true rfl]
      rfl
    rw [this]
    rfl
  · unfold isW
    rw [b1, b2, decide_eq_false (by omega : ¬ p + (z_lit k).length - p = (z_lit k').length), Bool.and_false, Bool.false_and]
theorem num_ok {p c lo hi : Nat} (h : p + 3 ≤ e) (h0 : tb p = 32) (h1 : tb (p + 1) = 48 + c) (hc : c < 10) (h2 : dgi (tb (p + 2)) = false) (hl : lo ≤ c) (hh : c ≤ hi) : numP tb e p lo hi = .inr (c, p + 2) := by
  obtain ⟨a, b, d, f⟩ := tk_num h h0 h1 hc h2
  unfold numP
  rw [d, f, b, if_pos rfl, if_pos ⟨hl, hh⟩]
theorem sem_ok {p : Nat} (h : p < e) (h0 : tb p = 59) : semP tb e p = .inr (p + 1) := by
  obtain ⟨a, b, d⟩ := tk_semi h h0
  unfold semP
  rw [d, b, if_pos rfl]
theorem d32 : dgi 32 = false := rfl
theorem d59 : dgi 59 = false := rfl
theorem st_giv {D : GS} {p r c s : Nat} (hp : p + 12 ≤ e) (hu : ∀ i, i < 6 → tb (p + i) = lb 4 i) (u6 : tb (p + 6) = 48 + r) (u7 : tb (p + 7) = 32) (u8 : tb (p + 8) = 48 + c) (u9 : tb (p + 9) = 32) (u10 : tb (p + 10) = 48 + s) (u11 : tb (p + 11) = 59) (hr : r < D.R) (hc : c < D.C) (hR : D.R ≤ 5) (hC : D.C ≤ 5) (hs : D.cd r c s = true) : tK tb e p ≠ 0 ∧ stmP tb e D p = .inr (D.give r c s, p + 12) := by
  obtain ⟨w1, w2, w0⟩ := lw_b
  obtain ⟨a1, a2, a3, a4, a5⟩ := tk_lit (tb := tb) (e := e) (p := p) (k := 2) (by omega) (by omega) (fun i hi => hu i (by omega))
  rw [w2] at a2
  have hsC := cd_lt2 hs
  have em := cd_em hs
  have isb := a5 1 (by omega)
  have u5 : tb (p + 5) = 32 := by rw [hu 5 (by omega)]; decide +kernel
  have n1 := num_ok (tb := tb) (e := e) (p := p + 5) (c := r) (lo := 0) (hi := D.R - 1) (by omega) u5 u6 (by omega) (by rw [u7]; exact d32) (by omega) (by omega)
  have n2 := num_ok (tb := tb) (e := e) (p := p + 7) (c := c) (lo := 0) (hi := D.C - 1) (by omega) u7 u8 (by omega) (by rw [u9]; exact d32) (by omega) (by omega)
  obtain ⟨k1, k2, k3, k4⟩ := tk_num (tb := tb) (e := e) (p := p + 9) (c := s) (by omega) u9 u10 (by omega) (by rw [u11]; exact d59)
  have sm := sem_ok (tb := tb) (e := e) (p := p + 11) (by omega) u11
  refine ⟨by rw [a3]; omega, ?_⟩
  have li : lineP tb e D false (p + 5) = .inr (D.give r c s, p + 11) := by
    unfold lineP
    rw [n1, bE_r, show (r, p + 5 + 2).2 = p + 7 by simp, n2, bE_r]
    rw [if_neg Bool.false_ne_true]
    unfold givP
    rw [show (c, p + 7 + 2).2 = p + 9 by simp, k3, if_pos rfl, if_pos em, k4, if_pos hsC, if_pos hs, k2]
  unfold stmP
  rw [isb, a4, if_neg (fun z => Bool.true_eq_false ▸ z.2), if_neg (fun z => Bool.false_ne_true z.1), a2, li, bE_r]
  show bE (semP tb e (p + 11)) _ = _
  rw [sm, bE_r]
theorem st_ban {D : GS} {p r c s : Nat} (hp : p + 10 ≤ e) (hu : ∀ i, i < 4 → tb (p + i) = lb 5 i) (u6 : tb (p + 4) = 48 + r) (u7 : tb (p + 5) = 32) (u8 : tb (p + 6) = 48 + c) (u9 : tb (p + 7) = 32) (u10 : tb (p + 8) = 48 + s) (u11 : tb (p + 9) = 59) (hr : r < D.R) (hc : c < D.C) (hR : D.R ≤ 5) (hC : D.C ≤ 5) (hs : s < D.C) (hN : D.N < 20) (hb : D.b (r * 5 + c) s = false) (hcs : D.c (r * 5 + c) ≠ s) : tK tb e p ≠ 0 ∧ stmP tb e D p = .inr (D.forbid (r * 5 + c) s, p + 10) := by
  obtain ⟨w1, w2, w0⟩ := lw_b
  obtain ⟨a1, a2, a3, a4, a5⟩ := tk_lit (tb := tb) (e := e) (p := p) (k := 1) (by omega) (by omega) (fun i hi => hu i (by omega))
  rw [w1] at a2
  have u5 : tb (p + 3) = 32 := by rw [hu 3 (by omega)]; decide +kernel
  have n1 := num_ok (tb := tb) (e := e) (p := p + 3) (c := r) (lo := 0) (hi := D.R - 1) (by omega) u5 u6 (by omega) (by rw [u7]; exact d32) (by omega) (by omega)
  have n2 := num_ok (tb := tb) (e := e) (p := p + 5) (c := c) (lo := 0) (hi := D.C - 1) (by omega) u7 u8 (by omega) (by rw [u9]; exact d32) (by omega) (by omega)
  have n3 := num_ok (tb := tb) (e := e) (p := p + 7) (c := s) (lo := 0) (hi := D.C - 1) (by omega) u9 u10 (by omega) (by rw [u11]; exact d59) (by omega) (by omega)
  have sm := sem_ok (tb := tb) (e := e) (p := p + 9) (by omega) u11
  refine ⟨by rw [a3]; omega, ?_⟩
  have li : lineP tb e D true (p + 3) = .inr (D.forbid (r * 5 + c) s, p + 9) := by
    unfold lineP
    rw [n1, bE_r, show (r, p + 3 + 2).2 = p + 5 by simp, n2, bE_r]
    rw [if_pos rfl]
    unfold banP
    rw [show (c, p + 5 + 2).2 = p + 7 by simp, n3, bE_r, if_neg]
    rintro (z | z)
    · rw [show (r, p + 3 + 2).1 = r from rfl, show (c, p + 5 + 2).1 = c from rfl, show (s, p + 7 + 2).1 = s from rfl, hb] at z
      cases z
    · exact hcs z
  unfold stmP
  rw [a4, if_neg (fun z => Bool.true_eq_false ▸ z.1), if_neg (fun z => by omega), a2, li, bE_r]
  show bE (semP tb e (p + 9)) _ = _
  rw [sm, bE_r]
theorem hd_ok {R C : Nat} (hp : 14 ≤ e) (hu : ∀ i, i < 10 → tb i = lb 3 i) (u10 : tb 10 = 48 + R) (u11 : tb 11 = 32) (u12 : tb 12 = 48 + C) (u13 : tb 13 = 59) (hR1 : 1 ≤ R) (hRC : R ≤ C) (hC2 : 2 ≤ C) (hC5 : C ≤ 5) : hdP tb e = .inr (S0 R C, 14) := by
  obtain ⟨w1, w2, w0⟩ := lw_b
  obtain ⟨a1, a2, a3, a4, a5⟩ := tk_lit (tb := tb) (e := e) (p := 0) (k := 0) (by omega) (by omega) (fun i hi => by rw [Nat.zero_add]; exact hu i (by omega))
  rw [w0] at a2
  have u9 : tb 9 = 32 := by rw [hu 9 (by omega)]; decide +kernel
  have n1 := num_ok (tb := tb) (e := e) (p := 9) (c := R) (lo := 1) (hi := 5) (by omega) u9 u10 (by omega) (by rw [u11]; exact d32) hR1 (by omega)
  have n2 := num_ok (tb := tb) (e := e) (p := 11) (c := C) (lo := max 2 R) (hi := 5) (by omega) u11 u12 (by omega) (by rw [u13]; exact d59) (by omega) hC5
  have sm := sem_ok (tb := tb) (e := e) (p := 13) (by omega) u13
  unfold hdP
  rw [if_pos a4, a2, show 0 + 9 = 9 from rfl, n1, bE_r]
  show bE (numP tb e 11 (max 2 R) 5) _ = _
  rw [n2, bE_r]
  show bE (semP tb e 13) _ = _
  rw [sm, bE_r]
end
/-- the text so far stands for S: m statements behind the first -/
def PT (S : GS) (n m : Nat) (u : Nat → Nat) : Prop := ∀ tb e, n ≤ e → (∀ j, j < n → tb j = u j) → parP tb e = lpP tb e (501 - m) S n
theorem PT.end {S : GS} {n m : Nat} {u : Nat → Nat} (h : PT S n m u) {tb : Nat → Nat} (hu : ∀ j, j < n → tb j = u j) (hm : m ≤ 100) : parP tb n = .inr S := by
  rw [h tb n (Nat.le_refl _) hu]
  obtain ⟨k, hk⟩ : ∃ k, 501 - m = k + 1 := ⟨500 - m, by omega⟩
  rw [hk]
  unfold lpP
  rw [if_pos (tk_end (Nat.le_refl _))]
theorem PT.step {S T : GS} {n n' m : Nat} {u u' : Nat → Nat} (h : PT S n m u) (hm : m ≤ 100) (hn : n ≤ n') (hu : ∀ j, j < n → u' j = u j) (hs : ∀ tb e, n' ≤ e → (∀ j, j < n' → tb j = u' j) → tK tb e n ≠ 0 ∧ stmP tb e S n = .inr (T, n')) : PT T n' (m + 1) u' := by
  intro tb e he hj
  rw [h tb e (by omega) (fun j hj' => by rw [hj j (by omega), hu j hj'])]
  obtain ⟨a, b⟩ := hs tb e he hj
  rw [show 501 - m = (501 - (m + 1)) + 1 by omega]
  conv => lhs; unfold lpP
  rw [if_neg a, b, bE_r]
theorem PT.head {R C : Nat} {u : Nat → Nat} (hu : ∀ i, i < 10 → u i = lb 3 i) (u10 : u 10 = 48 + R) (u11 : u 11 = 32) (u12 : u 12 = 48 + C) (u13 : u 13 = 59) (hR1 : 1 ≤ R) (hRC : R ≤ C) (hC2 : 2 ≤ C) (hC5 : C ≤ 5) : PT (S0 R C) 14 0 u := by
  intro tb e he hj
  have hh := hd_ok (tb := tb) (e := e) (R := R) (C := C) he (fun i hi => by rw [hj i (by omega)]; exact hu i hi) (by rw [hj 10 (by omega)]; exact u10) (by rw [hj 11 (by omega)]; exact u11) (by rw [hj 12 (by omega)]; exact u12) (by rw [hj 13 (by omega)]; exact u13) hR1 hRC hC2 hC5
  unfold parP
  rw [hh, bE_r]
