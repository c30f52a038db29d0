/-! the reference: what is forced -/
section
variable {g : z_G} {d : Nat} {f : Nat → Option z_C} {h : z_H} {q : Option Nat × Nat × Nat} {P : z_Res → Prop} {m : Nat} {I : Nat → Int32} {A : Nat → Nat → Int32} {S : GS}
/-- a forced cell's symbol and reason in one number; 0 -/
def GS.ft (S : GS) (r j : Nat) : Nat := if S.rs r j = 0 then 0 else 8 * S.fs r j + S.rs r j
theorem pop_lt (p : Nat → Bool) : pop p < 6 := by
  have : ∀ b : Bool, b.toNat ≤ 1 := by decide
  have h0 := this (p 0)
  have h1 := this (p 1)
  have h2 := this (p 2)
  have h3 := this (p 3)
  have h4 := this (p 4)
  unfold pop
  omega
theorem fs_lt {r j : Nat} (h : S.rs r j ≠ 0) : S.fs r j < 5 := (low_sp (br_fb h).2.1).1
theorem ft_0 (r j : Nat) : S.ft r j = 0 ↔ S.rs r j = 0 := by
  unfold GS.ft
  by_cases e : S.rs r j = 0
  · rw [if_pos e]
    simp [e]
  · rw [if_neg e]
    omega
theorem ft_lt (r j : Nat) : S.ft r j < 100 := by
  unfold GS.ft
  split
  · omega
  · next e =>
    have := fs_lt e
    have := rs_lt (S := S) r j
    omega
end
