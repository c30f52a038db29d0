/-! the reference: tokens -/
def mk (k : Nat) : Nat := if k = 0 then 0 else if k = 1 then 4 else k - 1
theorem wi_nn {n a b : Nat} (h : n < 1000) (ha : a < 1000) (hb : b < 1000) : wi (nI n) (nI a) (nI b) = (decide (a ≤ n) && decide (n ≤ b)) := by
  unfold wi
  rw [decide_eq_decide.mpr (show (nI n < nI a) ↔ n < a by rw [cI_lt (by omega) (by omega)]), decide_eq_decide.mpr (show (nI b < nI n) ↔ b < n by rw [cI_lt (by omega) (by omega)])]
  by_cases h1 : n < a
  · rw [decide_eq_true h1, decide_eq_false (show ¬ a ≤ n by omega)]
    rfl
  · rw [decide_eq_false h1, decide_eq_true (show a ≤ n by omega)]
    by_cases h2 : b < n
    · rw [decide_eq_true h2, decide_eq_false (show ¬ n ≤ b by omega)]
      rfl
    · rw [decide_eq_false h2, decide_eq_true (show n ≤ b by omega)]
      rfl
def tkJ (J : Nat → Int32) (n k s : Nat) (v : Int32) : Nat → Int32 := fun j => if j = 15 then nI s else if j = 16 then nI n else if j = 17 then nI (mk k) else if j = 18 then v else J j
theorem tkJ_of {J J' : Nat → Int32} {n k s : Nat} {v : Int32} (h2 : J' 15 = nI s) (h3 : J' 16 = nI n) (h4 : J' 17 = nI (mk k)) (h5 : J' 18 = v) (ho : ∀ j, j ≠ 15 → j ≠ 16 → j ≠ 17 → j ≠ 18 → J' j = J j) : J' = tkJ J n k s v := by
  funext j
  unfold tkJ
  by_cases e2 : j = 15
  · rw [if_pos e2, e2, h2]
  · rw [if_neg e2]
    by_cases e3 : j = 16
    · rw [if_pos e3, e3, h3]
    · rw [if_neg e3]
      by_cases e4 : j = 17
      · rw [if_pos e4, e4, h4]
      · rw [if_neg e4]
        by_cases e5 : j = 18
        · rw [if_pos e5, e5, h5]
        · rw [if_neg e5]
          exact ho j e2 e3 e4 e5
section
variable {g : z_G} {d : Nat} {f : Nat → Option z_C} {m : Nat} {A : Nat → Nat → Int32} {tb : Nat → Nat} {e : Nat}
def bv (tb : Nat → Nat) (e p : Nat) : Int32 := if p < e then nI (tb p) else -1
theorem bv_eq {p c : Nat} (hb : ∀ k, tb k < 256) (hc : c < 256) : (bv tb e p = nI c) = (p < e ∧ tb p = c) := by
  have := hb p
  unfold bv
  by_cases h : p < e
  · rw [if_pos h, cI_eq (by omega) (by omega)]
    exact propext ⟨fun z => ⟨h, z⟩, fun z => z.2⟩
  · rw [if_neg h]
    exact propext ⟨fun z => (Eq.mp (on_m1 c (by omega)) z.symm).elim, fun z => absurd z.1 h⟩
theorem bv_m1 {p : Nat} (hb : ∀ k, tb k < 256) : (bv tb e p = -1) = ¬ (p < e) := by
  have := hb p
  unfold bv
  by_cases h : p < e
  · rw [if_pos h, on_m1 _ (by omega)]
    exact propext ⟨fun z => z.elim, fun z => z h⟩
  · rw [if_neg h]
    exact propext ⟨fun _ => h, fun _ => rfl⟩
theorem bv_ltr {p : Nat} (hb : ∀ k, tb k < 256) : wi (bv tb e p) (nI 97) (nI 122) = (decide (p < e) && ltr (tb p)) := by
  have := hb p
  unfold bv
  by_cases h : p < e
  · rw [if_pos h, decide_eq_true h, wi_nn (by omega) (by omega) (by omega)]
    rfl
  · have : wi (-1) (nI 97) (nI 122) = false := by decide
    rw [if_neg h, decide_eq_false h, this, Bool.false_and]
theorem bv_dgi {p : Nat} (hb : ∀ k, tb k < 256) : wi (bv tb e p) (nI 48) (nI 57) = (decide (p < e) && dgi (tb p)) := by
  have := hb p
  unfold bv
  by_cases h : p < e
  · rw [if_pos h, decide_eq_true h, wi_nn (by omega) (by omega) (by omega)]
    rfl
  · have : wi (-1) (nI 48) (nI 57) = false := by decide
    rw [if_neg h, decide_eq_false h, this, Bool.false_and]
/-- a number's value after j digits -/
def vj (tb : Nat → Nat) (s j : Nat) : Nat := if j = 0 then 0 else if j = 1 then tb s - 48 else 10 * (tb s - 48) + (tb (s + 1) - 48)
end
