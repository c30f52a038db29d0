/-! empty cells by the number of their candidates -/
def oe (o : Option Nat) (K : Nat → Prop) (E : Prop) : Prop := match o with
  | some i => K i
  | none => E
theorem oe_s (i : Nat) (K : Nat → Prop) (E : Prop) : oe (some i) K E = K i := rfl
theorem oe_n (K : Nat → Prop) (E : Prop) : oe none K E = E := rfl
theorem kf_iff {p : Nat → Bool} {X : Nat} (hX : X < 2147483648) : ∀ (k i n : Nat), n ≤ X → (kf p (nI X) i k n = none ↔ n + ct p i k ≤ X)
  | 0, i, n, h => by
    rw [ct_z, Nat.add_zero]
    exact ⟨fun _ => h, fun _ => rfl⟩
  | k + 1, i, n, h => by
    unfold kf
    rw [ct_s]
    cases e : p i
    · rw [if_neg Bool.false_ne_true, Bool.toNat_false, Nat.zero_add]
      exact kf_iff hX k (i + 1) n h
    · rw [if_pos rfl, Bool.toNat_true]
      by_cases e2 : X = n
      · subst e2
        rw [if_pos rfl]
        exact ⟨fun z => by (exact absurd z (by simp)), fun z => by omega⟩
      · have : ¬ nI X = nI n := by
          rw [cI_eq hX (by omega)]
          exact e2
        rw [if_neg this, kf_iff hX k (i + 1) (n + 1) (by omega)]
        omega
theorem sub_ge {X t : Nat} (hX : X < 2147483648) (h : t ≤ X) : (nI X - nI t < nI 0) = False := by
  rw [cI_sub h, cI_lt (by omega) (by omega)]
  exact eq_false (by omega)
/-- an empty cell of a number of candidates -/
def GS.pe (S : GS) (n k : Nat) : Bool := decide (k / 5 < S.R) && decide (k % 5 < S.C) && decide (S.c k = 5) && decide (pop (S.cd (k / 5) (k % 5)) = n)
def GS.ef (S : GS) (x : Int32) : Nat → Nat → Nat → Option (Nat × Nat)
  | _, 0, _ => none
  | n, k + 1, t => match kf (S.pe n) x 0 25 t with
    | some i => some (i, n)
    | none => S.ef x (n + 1) k (t + ct (S.pe n) 0 25)
theorem pe_at {S : GS} {n r j : Nat} (hj : j < 5) : S.pe n (r * 5 + j) = (decide (r < S.R) && decide (j < S.C) && decide (S.c (r * 5 + j) = 5) && decide (pop (S.cd r j) = n)) := by
  unfold GS.pe
  rw [show (r * 5 + j) / 5 = r by omega, show (r * 5 + j) % 5 = j by omega]
section
variable {g : z_G} {d : Nat} {f : Nat → Option z_C} {h : z_H} {q : Option Nat × Nat × Nat} {P : z_Res → Prop} {a x : Nat} {S : GS} {fs : List Value}
def oef (o : Option (Nat × Nat)) : Int32 := match o with
  | some i => nI i.1
  | none => -1
end
