/-! the reference's small methods -/
theorem zb_t : zb true = nI 1 := rfl
theorem zb_f : zb false = nI 0 := rfl
def wi (x a b : Int32) : Bool := !decide (x < a) && !decide (b < x)
def okN (x : Int32) (n : Nat) : Bool := !decide (x < nI 0) && decide (x < nI n)
theorem okN_ex {x : Int32} {n : Nat} (hn : n < 2147483648) (h : okN x n = true) : ∃ r, r < n ∧ x = nI r := by
  unfold okN at h
  simp only [Bool.and_eq_true, Bool.not_eq_true', decide_eq_false_iff_not, decide_eq_true_eq] at h
  obtain ⟨j, h1, h2⟩ := nI_of h.1
  subst h2
  have := h.2
  rw [cI_lt h1 hn] at this
  exact ⟨j, this, rfl⟩
theorem okN_nI {r n : Nat} (hn : n < 2147483648) (h : r < n) : okN (nI r) n = true := by
  unfold okN
  rw [decide_eq_false (by rw [cI_lt (by omega) (by omega)]; omega), decide_eq_true (by rw [cI_lt (by omega) hn]; exact h)]
  rfl
theorem upd_upd (I : Nat → Int32) (k : Nat) (x y : Int32) : upd (upd I k x) k y = upd I k y := by
  funext j
  unfold upd
  split <;> rfl
theorem upd_eqI (I : Nat → Int32) (k : Nat) : upd I k (I k) = I := by
  funext j
  unfold upd
  split
  · next e => rw [e]
  · rfl
section
variable {g : z_G} {d : Nat} {f : Nat → Option z_C} {h : z_H} {q : Option Nat × Nat × Nat} {P : z_Res → Prop} {m : Nat} {I : Nat → Int32} {A : Nat → Nat → Int32} {S : GS}
theorem wi_okN {x : Int32} {n : Nat} (h : 0 < n) (hn : n < 2147483648) : wi x (nI 0) (nI n - nI 1) = okN x n := by
  unfold wi okN
  rw [cI_sub (by omega)]
  by_cases e : x < nI 0
  · simp [e]
  · obtain ⟨j, h1, rfl⟩ := nI_of e
    simp (disch := omega) only [cI_lt, Nat.not_lt_zero, decide_false, Bool.not_false, Bool.true_and]
    by_cases e2 : j < n
    · rw [decide_eq_true e2, decide_eq_false (by omega)]
      rfl
    · rw [decide_eq_false e2, decide_eq_true (by omega)]
      rfl
end
