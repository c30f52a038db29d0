/-! the operations, one by one: looking -/
section
variable {g : z_G} {d : Nat} {f : Nat → Option z_C} {fr : Option Int32 → (Nat → GS) → (Nat → Int32) → (Nat → Nat → Int32) → Nat → Option z_C} {q : Option Nat × Nat × Nat} {P : z_Res → Prop} {B m : Nat} {G : Nat → GS} {I : Nat → Int32} {A : Nat → Nat → Int32} {J : Nat → Int32} {K : Nat → Nat → Int32} {cm mm : Nat} {hs : List (String × Nat)} {bo : Bool} {as : List Value}
theorem nb {v : Int32} : false = true → ∃ b, v = zb b := fun h => nomatch h
theorem zb_ex (b : Bool) : true = true → ∃ b', zb b = zb b' := fun _ => ⟨b, rfl⟩
theorem z0_ex : true = true → ∃ b', nI 0 = zb b' := fun _ => ⟨false, rfl⟩
theorem toN (x : Int32) (h : ¬ x < nI 0) : ∃ X, X < 2147483648 ∧ x = nI X := nI_of h
theorem kf_neg {p : Nat → Bool} {x : Int32} (hx : x < nI 0) : ∀ (k i n : Nat), n + k < 1000 → kf p x i k n = none
  | 0, i, n, _ => rfl
  | k + 1, i, n, h => by
    unfold kf
    have e : x ≠ nI n := by
      intro z
      rw [z, cI_lt (by omega) (by omega)] at hx
      omega
    rw [if_neg e, kf_neg hx k (i + 1) (n + 1) (by omega), kf_neg hx k (i + 1) n (by omega)]
    simp
theorem kf_out {p : Nat → Bool} {v : Int32} (h : okN v 26 = false) : kf p v 0 25 0 = none := by
  by_cases e : v < nI 0
  · exact kf_neg e _ _ _ (by omega)
  · obtain ⟨X, h1, rfl⟩ := toN v e
    refine (kf_iff h1 25 0 0 (by omega)).2 ?_
    have := ct_le p 25 0
    by_cases z : X < 26
    · rw [okN_nI (by omega) z] at h
      cases h
    · omega
theorem ef_ok {S : GS} {x : Int32} : ∀ (k n t : Nat) (i : Nat × Nat), S.ef x n k t = some i → S.pe i.2 i.1 = true ∧ i.1 < 25
  | 0, n, t, i, h => by cases h
  | k + 1, n, t, i, h => by
    unfold GS.ef at h
    cases e : kf (S.pe n) x 0 25 t with
    | some j =>
      rw [e] at h
      cases h
      obtain ⟨h1, h2, h3⟩ := kf_p _ _ _ _ e
      exact ⟨h1, by omega⟩
    | none =>
      rw [e] at h
      exact ef_ok k (n + 1) _ i h
end
