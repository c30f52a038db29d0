/-! the making of the reference -/
section
variable {g : z_G} {d : Nat} {f : Nat → Option z_C} {P : z_Res → Prop} {m x y N : Nat}
def J00 : Nat → Int32 := fun i => if i = 20 then -1 else 0
theorem x10_init (hd : 5 < d) {fs : List Value} (h : f m = some (.inr (10, fs))) : ∃ J K, J 0 = nI 0 ∧ J 3 = nI 0 ∧ J 13 = nI 0 ∧ J 20 = -1 ∧ J 23 = nI 0 ∧ MH J K (S0 2 2) ∧ (∀ k, k < 25 → K 1 k = -1) ∧ (∀ k, k < 500 → K 6 k = nI 0) ∧ (∀ s, s < 2 → K 12 s = nI 0) ∧ ∀ P : z_Res → Prop, z_Ca g d 120 [.ref m] (f, some (m + 1), x, y) P = P (.inr none, (mw f m J K, some (m + 13), x + 12, y + 2000)) := by
  sorry
end
