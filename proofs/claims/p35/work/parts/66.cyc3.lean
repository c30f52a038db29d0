/-! all cycles collected; the reference's cycles -/
theorem pc_dig (i : Nat) : i / 25 / 5 = i / 125 ∧ i / 5 / 5 = i / 25 := ⟨by rw [Nat.div_div_eq_div_mul], by rw [Nat.div_div_eq_div_mul]⟩
theorem pc_no2 {S : GS} {i : Nat} (h : ¬ (i / 25 % 5 < i / 5 % 5 ∧ i / 5 % 5 < S.R ∧ S.fl (i / 25 % 5) = true ∧ S.fl (i / 5 % 5) = true ∧ i % 5 < S.C)) : S.pc i = false := by
  cases z : S.pc i
  · rfl
  · unfold GS.pc at z
    simp only [Bool.and_eq_true, decide_eq_true_eq] at z
    obtain ⟨⟨⟨⟨⟨⟨z1, z2⟩, z3⟩, z4⟩, z5⟩, z6⟩, z7⟩ := z
    exact absurd ⟨z1, z2, z3, z4, z5⟩ h
def rkT (a : Nat) : Nat := if a = 0 then 0 else if a = 1 then 4 else if a = 2 then 7 else if a = 3 then 9 else 10
theorem rkT_s {a : Nat} (h : a < 5) : rkT (a + 1) = rkT a + (4 - a) := by
  rcases five h with rfl | rfl | rfl | rfl | rfl <;> rfl
theorem rkT_b (a : Nat) : rkT a ≤ 10 := by
  unfold rkT
  split
  · omega
  · split
    · omega
    · split
      · omega
      · split <;> omega
/-- what is told of a cycle -/
def cv (w i : Nat) : Int32 := if w = 0 then nI (i / 125) else if w = 1 then nI (i / 25 % 5) else if w = 2 then nI (i / 5 % 5) else nI (i % 5)
section
variable {g : z_G} {d : Nat} {f : Nat → Option z_C} {q : Option Nat × Nat × Nat} {P : z_Res → Prop} {B : Nat} {G : Nat → GS} {I : Nat → Int32} {A : Nat → Nat → Int32}
end
section
variable {g : z_G} {d : Nat} {f : Nat → Option z_C} {q : Option Nat × Nat × Nat} {P : z_Res → Prop} {m : Nat} {I : Nat → Int32} {A : Nat → Nat → Int32} {S : GS}
theorem kf_t {p : Nat → Bool} {x : Int32} {i k n : Nat} (h : p i = true) : kf p x i (k + 1) n = if x = nI n then some i else kf p x (i + 1) k (n + 1) := by
  conv => lhs; unfold kf
  rw [if_pos h]
theorem kf_f {p : Nat → Bool} {x : Int32} {i k n : Nat} (h : p i = false) : kf p x i (k + 1) n = kf p x (i + 1) k n := by
  conv => lhs; unfold kf
  rw [h, if_neg Bool.false_ne_true]
theorem oe_split {p : Nat → Bool} {x : Int32} {K : Nat → Prop} {E : Prop} : ∀ (k1 k2 i t : Nat), oe (kf p x i (k1 + k2) t) K E = oe (kf p x i k1 t) K (oe (kf p x (i + k1) k2 (t + ct p i k1)) K E)
  | 0, k2, i, t => by rw [Nat.zero_add, Nat.add_zero, ct_z, Nat.add_zero]; rfl
  | k1 + 1, k2, i, t => by
    rw [show k1 + 1 + k2 = (k1 + k2) + 1 by omega, ct_s]
    cases e : p i
    · rw [kf_f e, kf_f e, oe_split k1 k2 (i + 1) t, Bool.toNat_false, Nat.zero_add, show i + 1 + k1 = i + (k1 + 1) by omega]
    · rw [kf_t e, kf_t e]
      by_cases q : x = nI t
      · rw [if_pos q, if_pos q]
        rfl
      · rw [if_neg q, if_neg q, oe_split k1 k2 (i + 1) (t + 1), Bool.toNat_true, show i + 1 + k1 = i + (k1 + 1) by omega, show t + 1 + ct p (i + 1) k1 = t + (1 + ct p (i + 1) k1) by omega]
theorem oe_none {p : Nat → Bool} {x : Int32} {K : Nat → Prop} {E : Prop} {k i t : Nat} (h : ∀ j, i ≤ j → j < i + k → p j = false) : oe (kf p x i k t) K E = E := by rw [kf_none k i t h]; rfl
end
