/-! the reference: a text parsed; words appended -/
theorem isR_r {α β : Type} (b : β) : isR (.inr b : α ⊕ β) = true := rfl
def JY (J J' : Nat → Int32) : Prop := ∀ j, j ≠ 4 → j ≠ 5 → j ≠ 6 → j ≠ 15 → j ≠ 16 → j ≠ 17 → j ≠ 18 → j ≠ 19 → j ≠ 20 → j ≠ 21 → J' j = J j
theorem JX.y {J J' : Nat → Int32} (h : JX J J') : JY J J' := fun j _ _ _ a b c d e f k => h j a b c d e f k
theorem JY.tr {I I' I'' : Nat → Int32} (h : JY I I') (h' : JY I' I'') : JY I I'' := fun j a b c d e f k l m n => (h' j a b c d e f k l m n).trans (h j a b c d e f k l m n)
theorem JX.dm {J J' : Nat → Int32} {K : Nat → Nat → Int32} {D : GS} (h : JX J J') (hM : DM J K D) : DM J' K D := by
  obtain ⟨h4, h5, h6, h3, hb⟩ := hM
  exact ⟨(h 4 (by omega) (by omega) (by omega) (by omega) (by omega) (by omega) (by omega)).trans h4, (h 5 (by omega) (by omega) (by omega) (by omega) (by omega) (by omega) (by omega)).trans h5, (h 6 (by omega) (by omega) (by omega) (by omega) (by omega) (by omega) (by omega)).trans h6, h3, hb⟩
section
variable {g : z_G} {d : Nat} {f : Nat → Option z_C} {m : Nat} {tb : Nat → Nat} {e : Nat}
/-- a statement without its end -/
def stA (tb : Nat → Nat) (e : Nat) (D : GS) (p : Nat) : PE ⊕ (GS × Nat) := if isW tb e p 1 = false ∧ isW tb e p 2 = false then .inl (1, tS tb e p) else if isW tb e p 1 = true ∧ 20 ≤ D.N then .inl (4, tS tb e p) else lineP tb e D (isW tb e p 1) (tN tb e p)
theorem stm_A (D : GS) (p : Nat) : stmP tb e D p = bE (stA tb e D p) fun x => bE (semP tb e x.2) fun n => .inr (x.1, n) := by
  unfold stmP stA
  split
  · rfl
  · split
    · rfl
    · rfl
theorem stA_b {D : GS} (hD : DI D) {p : Nat} (hp : p ≤ e) {x : GS × Nat} (h : stA tb e D p = .inr x) : x.2 ≤ e ∧ DI x.1 := by
  have nb := tN_b (tb := tb) hp
  unfold stA at h
  split at h
  · cases h
  · split at h
    · cases h
    · next q2 =>
      have := line_b hD (b := isW tb e p 1) (fun z => by
        by_cases w : 20 ≤ D.N
        · exact absurd ⟨z, w⟩ q2
        · omega) nb.2.1 h
      exact ⟨this.1, this.2.2.1⟩
-- the draft cleared, lifted; a beginning
-- bytes
end
