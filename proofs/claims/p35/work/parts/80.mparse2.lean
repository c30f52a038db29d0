/-! the reference: its grammar -/
def JX (J J' : Nat → Int32) : Prop := ∀ j, j ≠ 15 → j ≠ 16 → j ≠ 17 → j ≠ 18 → j ≠ 19 → j ≠ 20 → j ≠ 21 → J' j = J j
theorem JX.tr {I I' I'' : Nat → Int32} (h : JX I I') (h' : JX I' I'') : JX I I'' := fun j a b c d e f k => (h' j a b c d e f k).trans (h j a b c d e f k)
theorem JX_tk (I : Nat → Int32) (n k s : Nat) (v : Int32) : JX I (tkJ I n k s v) := fun j a b c d _ _ _ => by
  unfold tkJ
  rw [if_neg a, if_neg b, if_neg c, if_neg d]
/-- the token at p is the one that is looked at -/
def ML (J : Nat → Int32) (tb : Nat → Nat) (e p : Nat) : Prop := J 14 = nI e ∧ J 15 = nI (tS tb e p) ∧ J 16 = nI (tN tb e p) ∧ J 17 = nI (mk (tK tb e p)) ∧ (tK tb e p = 3 → J 18 = nI (tV tb e p)) ∧ J 19 = nI 0
/-- the draft, as D -/
def DM (J : Nat → Int32) (K : Nat → Nat → Int32) (D : GS) : Prop := J 4 = nI D.R ∧ J 5 = nI D.C ∧ J 6 = nI D.N ∧ (∀ k, k < 25 → K 3 k = ce (D.c k)) ∧ (∀ k, k < 25 → K 4 k = sS (D.b k))
theorem mk_2 {k : Nat} (h : k < 5) : (mk k = 2) = (k = 3) := by
  unfold mk
  exact propext ⟨fun z => by split at z <;> (try split at z) <;> omega, fun z => by rw [z]; rfl⟩
theorem mk_1 {k : Nat} (h : k < 5) : (mk k = 1) = (k = 2) := by
  unfold mk
  exact propext ⟨fun z => by split at z <;> (try split at z) <;> omega, fun z => by rw [z]; rfl⟩
theorem mk_3 {k : Nat} (h : k < 5) : (mk k = 3) = (k = 4) := by
  unfold mk
  exact propext ⟨fun z => by split at z <;> (try split at z) <;> omega, fun z => by rw [z]; rfl⟩
theorem mk_0 {k : Nat} (h : k < 5) : (mk k = 0) = (k = 0) := by
  unfold mk
  exact propext ⟨fun z => by split at z <;> (try split at z) <;> omega, fun z => by rw [z]; rfl⟩
theorem mk_lt {k : Nat} (h : k < 5) : mk k < 5 := by
  unfold mk
  split <;> (try split) <;> omega
section
variable {g : z_G} {d : Nat} {f : Nat → Option z_C} {m : Nat} {A : Nat → Nat → Int32} {tb : Nat → Nat} {e : Nat}
theorem JX_f (J : Nat → Int32) (x y : Int32) : JX J (upd (upd J 19 x) 20 y) := fun j _ _ _ _ e f _ => by rw [upd_ne f, upd_ne e]
/-- what a given symbol clashes with -/
def clB (D : GS) (r c s : Nat) : Nat → Bool := fun k => decide (D.c (r * 5 + k) = s) || decide (D.c (k * 5 + c) = s)
end
