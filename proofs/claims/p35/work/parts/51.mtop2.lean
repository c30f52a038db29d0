/-! the reference: empty cells by place, forced, sizes -/
section
variable {g : z_G} {d : Nat} {f : Nat → Option z_C} {h : z_H} {q : Option Nat × Nat × Nat} {P : z_Res → Prop} {m : Nat} {I : Nat → Int32} {A : Nat → Nat → Int32} {S : GS}
/-- what is told of an empty cell -/
def ev (w : Nat) (i n : Nat) : Int32 := if w = 0 then nI (i / 5) else if w = 1 then nI (i - i / 5 * 5) else nI n
def oev (w : Nat) (o : Option (Nat × Nat)) : Int32 := match o with
  | some i => ev w i.1 i.2
  | none => -1
theorem wi_ok {w : Int32} {l : Nat} (hl : l < 1000) : wi w (nI 0) (nI l) = okN w (l + 1) := by
  have := wi_okN (x := w) (n := l + 1) (by omega) (by omega)
  rw [cI_sub (by omega), Nat.add_sub_cancel] at this
  exact this
end
