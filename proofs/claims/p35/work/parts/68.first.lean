/-! the first completion, on both sides -/
def fsO {α : Type} (F : Nat → Option α) : Nat → Nat → Option α
  | _, 0 => none
  | i, k + 1 => match F i with
    | some x => some x
    | none => fsO F (i + 1) k
theorem fsO_s {α : Type} {F : Nat → Option α} {i k : Nat} {x : α} (h : F i = some x) : fsO F i (k + 1) = some x := by
  unfold fsO
  rw [h]
theorem fsO_n {α : Type} {F : Nat → Option α} {i k : Nat} (h : F i = none) : fsO F i (k + 1) = fsO F (i + 1) k := by
  conv => lhs; unfold fsO
  rw [h]
theorem fsO_at {α : Type} {F : Nat → Option α} {x : α} : ∀ (m k i : Nat), (∀ j, i ≤ j → j < i + m → F j = none) → F (i + m) = some x → fsO F i (m + (k + 1)) = some x
  | 0, k, i, h1, h2 => by rw [Nat.zero_add]; exact fsO_s h2
  | m + 1, k, i, h1, h2 => by
    rw [show m + 1 + (k + 1) = (m + (k + 1)) + 1 by omega, fsO_n (h1 i (Nat.le_refl _) (by omega))]
    exact fsO_at m k (i + 1) (fun j a b => h1 j (by omega) (by omega)) (by rw [show i + 1 + m = i + (m + 1) by omega]; exact h2)
section
variable (R C : Nat) (b : Nat → Nat → Bool)
/-- the first way to fill the empty cells from i on -/
def fcp : Nat → Nat → (Nat → Nat) → Option (Nat → Nat)
  | 0, _, c => some c
  | n + 1, i, c => if inR R C i = true ∧ c i = 5 then fsO (fun s => if cdk C b c i s = true then fcp n (i + 1) (nu c i s) else none) 0 C else fcp n (i + 1) c
end
theorem fs_sm {α : Type} {F : Nat → Option α} {p : Nat → Nat} : ∀ (k i : Nat), (∀ s, i ≤ s → s < i + k → (F s = none ↔ p s = 0)) → (fsO F i k = none ↔ sm p i k = 0)
  | 0, i, h => ⟨fun _ => rfl, fun _ => rfl⟩
  | k + 1, i, h => by
    have h0 := h i (Nat.le_refl _) (by omega)
    have ih := fs_sm (F := F) (p := p) k (i + 1) (fun s a b => h s (by omega) (by omega))
    rw [sm_s]
    cases e : F i with
    | none =>
      rw [fsO_n e, ih]
      have := h0.mp e
      omega
    | some x =>
      rw [fsO_s e]
      have : p i ≠ 0 := fun z => by
        rw [h0.mpr z] at e
        cases e
      exact ⟨fun z => by (exact absurd z (by simp)), fun z => by omega⟩
theorem fcp_cp {R C : Nat} {b : Nat → Nat → Bool} : ∀ (n i : Nat) (c : Nat → Nat), fcp R C b n i c = none ↔ cp R C b n i c = 0
  | 0, i, c => ⟨fun z => by (exact absurd z (by simp [fcp])), fun z => by (exact absurd z (by simp [cp]))⟩
  | n + 1, i, c => by
    unfold fcp cp
    by_cases h : inR R C i = true ∧ c i = 5
    · rw [if_pos h, if_pos h]
      refine fs_sm C 0 fun s _ _ => ?_
      by_cases e : cdk C b c i s = true
      · rw [if_pos e, if_pos e]
        exact fcp_cp n (i + 1) _
      · rw [if_neg e, if_neg e]
        exact ⟨fun _ => rfl, fun _ => rfl⟩
    · rw [if_neg h, if_neg h]
      exact fcp_cp n (i + 1) c
theorem fsO_ex {α : Type} {F : Nat → Option α} {x : α} : ∀ (k i : Nat), fsO F i k = some x → ∃ s, i ≤ s ∧ s < i + k ∧ F s = some x
  | 0, i, h => by cases h
  | k + 1, i, h => by
    cases e : F i with
    | none =>
      rw [fsO_n e] at h
      obtain ⟨s, a, b, c⟩ := fsO_ex k (i + 1) h
      exact ⟨s, by omega, by omega, c⟩
    | some y =>
      rw [fsO_s e] at h
      cases h
      exact ⟨i, by omega, by omega, e⟩
/-- what lies ahead stays -/
theorem fcp_keep {R C : Nat} {b : Nat → Nat → Bool} : ∀ (n i : Nat) (c F : Nat → Nat), fcp R C b n i c = some F → ∀ k, k < i → F k = c k
  | 0, i, c, F, h, k, hk => by
    unfold fcp at h
    cases h
    rfl
  | n + 1, i, c, F, h, k, hk => by
    unfold fcp at h
    split at h
    · obtain ⟨s, s1, s2, s3⟩ := fsO_ex _ _ h
      split at s3
      · rw [fcp_keep n (i + 1) _ F s3 k (by omega), nu_n (by omega)]
      · cases s3
    · exact fcp_keep n (i + 1) c F h k (by omega)
section
variable {g : z_G} {d : Nat} {f : Nat → Option z_C} {m : Nat} {I : Nat → Int32}
/-- what the reference keeps of a first completion -/
def cmA (kp : Bool) (o : Option (Nat → Nat)) (A : Nat → Nat → Int32) : Nat → Nat → Int32 := match kp, o with
  | true, some F => uA A 7 (fun k => ce (F k))
  | _, _ => A
theorem cmA_f (o : Option (Nat → Nat)) (A : Nat → Nat → Int32) : cmA false o A = A := by cases o <;> rfl
theorem cmA_n (kp : Bool) (A : Nat → Nat → Int32) : cmA kp none A = A := by cases kp <;> rfl
theorem upd_m1 {F : Nat → Int32} {k : Nat} (h : F k = -1) (x : Int32) : upd (upd F k x) k (-1) = F := by
  rw [upd_upd, ← h, upd_eqI]
theorem uA_5m {A : Nat → Nat → Int32} {k : Nat} (h : A 5 k = -1) (x : Int32) (B : Nat → Nat → Int32) (hB : B 5 = upd (A 5) k x) (hB2 : ∀ j, j ≠ 5 → j ≠ 7 → B j = A j) : uA B 5 (upd (B 5) k (-1)) = uA A 7 (B 7) := by
  funext j
  unfold uA
  by_cases e : j = 5
  · rw [if_pos e, e, hB, upd_m1 h]
    rfl
  · rw [if_neg e]
    by_cases e2 : j = 7
    · rw [if_pos e2, e2]
    · rw [if_neg e2, hB2 j e e2]
theorem cmA_back {A : Nat → Nat → Int32} {k : Nat} (h : A 5 k = -1) (x : Int32) (kp : Bool) (o : Option (Nat → Nat)) : uA (cmA kp o (uA A 5 (upd (A 5) k x))) 5 (upd (cmA kp o (uA A 5 (upd (A 5) k x)) 5) k (-1)) = cmA kp o A := by
  have base : uA (uA A 5 (upd (A 5) k x)) 5 (upd (uA A 5 (upd (A 5) k x) 5) k (-1)) = A := by
    rw [uA_s, uA_uA, upd_m1 h, uA_id]
  cases kp
  · rw [cmA_f, cmA_f]
    exact base
  · cases o
    · exact base
    · next F =>
      show uA (uA (uA A 5 (upd (A 5) k x)) 7 (fun k => ce (F k))) 5 (upd (uA (uA A 5 (upd (A 5) k x)) 7 (fun k => ce (F k)) 5) k (-1)) = uA A 7 (fun k => ce (F k))
      rw [uA_5m (A := A) (k := k) h x _ rfl (fun j a b => by unfold uA; rw [if_neg b, if_neg a])]
      rw [uA_s]
end
