/-! the reference: candidates, how many, the lowest -/
def anyB (p : Nat → Bool) : Nat → Bool
  | 0 => false
  | n + 1 => anyB p n || p n
theorem anyB_z (p : Nat → Bool) : anyB p 0 = false := rfl
theorem anyB_s (p : Nat → Bool) (n : Nat) : anyB p (n + 1) = (anyB p n || p n) := rfl
theorem anyB_iff (p : Nat → Bool) : ∀ n, anyB p n = true ↔ ∃ k, k < n ∧ p k = true
  | 0 => by simp [anyB]
  | n + 1 => by
    rw [anyB_s, Bool.or_eq_true, anyB_iff p n]
    constructor
    · rintro (⟨k, h1, h2⟩ | h)
      · exact ⟨k, by omega, h2⟩
      · exact ⟨n, by omega, h⟩
    · rintro ⟨k, h1, h2⟩
      by_cases e : k = n
      · subst e; exact Or.inr h2
      · exact Or.inl ⟨k, by omega, h2⟩
section
variable {g : z_G} {d : Nat} {f : Nat → Option z_C} {h : z_H} {q : Option Nat × Nat × Nat} {P : z_Res → Prop} {m : Nat} {I : Nat → Int32} {A : Nat → Nat → Int32} {S : GS}
theorem rU_any (hg : GI S) {r t : Nat} (hr : r < 5) (ht : t < 5) : anyB (fun x => decide (S.c (r * 5 + x) = t)) S.C = rU S.c r t := by
  apply b_ext2
  rw [anyB_iff, rU_iff]
  constructor
  · rintro ⟨k, h1, h2⟩
    exact ⟨k, by have := hg.C5; omega, of_decide_eq_true h2⟩
  · rintro ⟨k, h1, h2⟩
    refine ⟨k, ?_, decide_eq_true h2⟩
    apply Classical.byContradiction
    intro e
    rw [hg.out r k hr h1 (Or.inr (by omega))] at h2
    omega
theorem cU_any (hg : GI S) {j t : Nat} (hj : j < 5) (ht : t < 5) : anyB (fun x => decide (S.c (x * 5 + j) = t)) S.R = cU S.c j t := by
  apply b_ext2
  rw [anyB_iff, cU_iff]
  constructor
  · rintro ⟨k, h1, h2⟩
    exact ⟨hj, k, by have := hg.C5; have := hg.RC; omega, of_decide_eq_true h2⟩
  · rintro ⟨_, k, h1, h2⟩
    refine ⟨k, ?_, decide_eq_true h2⟩
    apply Classical.byContradiction
    intro e
    rw [hg.out k j h1 hj (Or.inl (by omega))] at h2
    omega
/-- the number of a set's symbols -/
def pop (p : Nat → Bool) : Nat := (p 0).toNat + (p 1).toNat + (p 2).toNat + (p 3).toNat + (p 4).toNat
def popc (m : Nat) : Nat := m % 2 + m / 2 % 2 + m / 4 % 2 + m / 8 % 2 + m / 16 % 2
theorem popc_m5 (p : Nat → Bool) : popc (m5 p) = pop p := by
  have : ∀ a b c d e : Bool, popc (m5b a b c d e) = a.toNat + b.toNat + c.toNat + d.toNat + e.toNat := by decide +kernel
  exact this _ _ _ _ _
theorem many_step : ∀ k, k < 32 → k ≠ 0 → nI k &&& (nI k - nI 1) = nI (k &&& (k - 1)) ∧ (k &&& (k - 1)) < k ∧ popc (k &&& (k - 1)) + 1 = popc k := by decide +kernel
/-- the lowest symbol of a set that has one -/
def low (p : Nat → Bool) : Nat := if p 0 then 0 else if p 1 then 1 else if p 2 then 2 else if p 3 then 3 else if p 4 then 4 else 5
theorem low_sp {p : Nat → Bool} (h : low p ≠ 5) : low p < 5 ∧ p (low p) = true ∧ ∀ i, i < low p → p i = false := by
  unfold low at h ⊢
  by_cases e0 : p 0 = true
  · simp only [e0, if_true]; exact ⟨by omega, trivial, fun i hi => by omega⟩
  · by_cases e1 : p 1 = true
    · simp only [e0, e1, if_true, if_false, Bool.false_eq_true]; exact ⟨by omega, trivial, fun i hi => by rw [show i = 0 by omega]; simpa using e0⟩
    · by_cases e2 : p 2 = true
      · simp only [e0, e1, e2, if_true, if_false, Bool.false_eq_true]; exact ⟨by omega, trivial, fun i hi => by rcases (show i = 0 ∨ i = 1 by omega) with rfl | rfl <;> simp_all⟩
      · by_cases e3 : p 3 = true
        · simp only [e0, e1, e2, e3, if_true, if_false, Bool.false_eq_true]; exact ⟨by omega, trivial, fun i hi => by rcases (show i = 0 ∨ i = 1 ∨ i = 2 by omega) with rfl | rfl | rfl <;> simp_all⟩
        · by_cases e4 : p 4 = true
          · simp only [e0, e1, e2, e3, e4, if_true, if_false, Bool.false_eq_true]; exact ⟨by omega, trivial, fun i hi => by rcases (show i = 0 ∨ i = 1 ∨ i = 2 ∨ i = 3 by omega) with rfl | rfl | rfl | rfl <;> simp_all⟩
          · simp [e0, e1, e2, e3, e4] at h
end
