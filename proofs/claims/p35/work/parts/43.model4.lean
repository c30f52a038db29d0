/-! the reference: counts -/
section
variable {g : z_G} {d : Nat} {f : Nat → Option z_C} {h : z_H} {q : Option Nat × Nat × Nat} {P : z_Res → Prop} {m : Nat} {I : Nat → Int32} {A : Nat → Nat → Int32} {S : GS}
def GS.fl (S : GS) (r : Nat) : Bool := !anyB (fun j => decide (S.c (r * 5 + j) = 5)) S.C
end
