/-! arrays by number -/
def uA (A : Nat → Nat → Int32) (i : Nat) (F : Nat → Int32) : Nat → Nat → Int32 := fun j => if j = i then F else A j
theorem uA_s (A : Nat → Nat → Int32) (i : Nat) (F : Nat → Int32) : uA A i F i = F := if_pos rfl
theorem uA_n (A : Nat → Nat → Int32) {i j : Nat} (F : Nat → Int32) (h : j ≠ i) : uA A i F j = A j := if_neg h
