/-! switching a cycle -/
section
variable {g : z_G} {d : Nat} {f : Nat → Option z_C} {fr : Option Int32 → (Nat → GS) → (Nat → Int32) → (Nat → Nat → Int32) → Nat → Option z_C} {q : Option Nat × Nat × Nat} {P : z_Res → Prop} {B m : Nat} {G G' : Nat → GS} {I I' : Nat → Int32} {A A' : Nat → Nat → Int32} {J J' : Nat → Int32} {K K' : Nat → Nat → Int32} {S : GS}
theorem fl_c (hg : GI S) {r : Nat} (fa : S.fl r = true) {j : Nat} (hj : j < S.C) : S.c (r * 5 + j) < 5 := by
  have h1 := (fl_iff.mp fa) j hj
  have h2 := hg.c5 (r * 5 + j)
  omega
theorem upd_ces {F : Nat → Int32} {c : Nat → Nat} {k s j : Nat} (h : F j = ce (c j)) : upd F k (ce s) j = ce (nu c k s j) := by
  unfold upd nu
  by_cases e : j = k
  · rw [if_pos e, if_pos e]
  · rw [if_neg e, if_neg e]
    exact h
end
