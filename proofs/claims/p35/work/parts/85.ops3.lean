/-! the symbol by its uses -/
section
theorem kf_at {p : Nat → Bool} {X : Nat} (hX : X < 2147483648) : ∀ (m i k n : Nat), n + ct p i m = X → p (i + m) = true → m < k → kf p (nI X) i k n = some (i + m)
  | m, i, 0, n, h1, h2, h3 => absurd h3 (by omega)
  | 0, i, k + 1, n, h1, h2, h3 => by
    rw [ct_z, Nat.add_zero] at h1
    rw [Nat.add_zero] at h2
    rw [kf_t h2, h1, if_pos rfl]
    rfl
  | m + 1, i, k + 1, n, h1, h2, h3 => by
    rw [ct_s] at h1
    cases e : p i
    · rw [e, Bool.toNat_false, Nat.zero_add] at h1
      rw [kf_f e, kf_at hX m (i + 1) k n h1 (by rw [show i + 1 + m = i + (m + 1) by omega]; exact h2) (by omega), show i + 1 + m = i + (m + 1) by omega]
    · rw [e, Bool.toNat_true] at h1
      have : ¬ nI X = nI n := by
        rw [cI_eq hX (by omega)]
        omega
      rw [kf_t e, if_neg this, kf_at hX m (i + 1) k (n + 1) (by omega) (by rw [show i + 1 + m = i + (m + 1) by omega]; exact h2) (by omega), show i + 1 + m = i + (m + 1) by omega]
theorem kf_ct {p : Nat → Bool} {X : Nat} (hX : X < 2147483648) : ∀ (k i n j : Nat), n ≤ X → kf p (nI X) i k n = some j → n + ct p i (j - i) = X
  | 0, i, n, j, hn, h => by cases h
  | k + 1, i, n, j, hn, h => by
    cases e : p i
    · rw [kf_f e] at h
      have := kf_ct hX k (i + 1) n j hn h
      obtain ⟨-, h2, h3⟩ := kf_p _ _ _ _ h
      rw [show j - i = (j - (i + 1)) + 1 by omega, ct_s, e, Bool.toNat_false, Nat.zero_add]
      exact this
    · rw [kf_t e] at h
      by_cases e2 : nI X = nI n
      · rw [if_pos e2] at h
        rw [cI_eq hX (by omega)] at e2
        cases h
        rw [Nat.sub_self, ct_z]
        omega
      · rw [if_neg e2] at h
        have e3 : X ≠ n := fun z => e2 (by rw [z])
        have := kf_ct hX k (i + 1) (n + 1) j (by omega) h
        obtain ⟨-, h2, h3⟩ := kf_p _ _ _ _ h
        rw [show j - i = (j - (i + 1)) + 1 by omega, ct_s, e, Bool.toNat_true]
        omega
theorem ct_or {p q r : Nat → Bool} : ∀ (k i : Nat), (∀ j, i ≤ j → j < i + k → (r j).toNat = (p j).toNat + (q j).toNat) → ct r i k = ct p i k + ct q i k
  | 0, i, h => rfl
  | k + 1, i, h => by
    rw [ct_s, ct_s, ct_s, h i (by omega) (by omega), ct_or k (i + 1) fun j h1 h2 => h j (by omega) (by omega)]
    omega
/-- the symbols by falling use, k steps from use k - 1 down -/
def uf (u : Nat → Nat) (C X : Nat) : Nat → Nat → Option Nat
  | 0, _ => none
  | k + 1, n => match kf (fun t => decide (u t = k)) (nI X) 0 C n with
    | some i => some i
    | none => uf u C X k (n + ct (fun t => decide (u t = k)) 0 C)
theorem uf_at {u : Nat → Nat} {C X s : Nat} (hX : X < 2147483648) (hs : s < C) : ∀ (k n : Nat), u s < k → n + ct (fun t => decide (u s < u t ∧ u t < k)) 0 C + ct (fun t => decide (u t = u s)) 0 s = X → uf u C X k n = some s
  | 0, n, h, _ => absurd h (by omega)
  | k + 1, n, h, h2 => by
    unfold uf
    by_cases e : u s = k
    · rw [ct_zero (p := fun t => decide (u s < u t ∧ u t < k + 1)) C 0 (fun j _ _ => decide_eq_false (by omega)), Nat.add_zero] at h2
      rw [kf_at hX s 0 C n (by rw [← h2, e]) (by rw [Nat.zero_add]; exact decide_eq_true e) hs, Nat.zero_add]
    · have o := ct_or (r := fun t => decide (u s < u t ∧ u t < k + 1)) (p := fun t => decide (u s < u t ∧ u t < k)) (q := fun t => decide (u t = k)) C 0 (fun j _ _ => by
        by_cases e1 : u j = k
        · rw [decide_eq_true (p := u j = k) e1, decide_eq_true (by omega), decide_eq_false (by omega)]
          rfl
        · rw [decide_eq_false (p := u j = k) e1]
          by_cases e2 : u s < u j ∧ u j < k
          · rw [decide_eq_true e2, decide_eq_true (by omega)]
            rfl
          · rw [decide_eq_false e2, decide_eq_false (by omega)]
            rfl)
      rw [o] at h2
      rw [(kf_iff hX C 0 n (by omega)).mpr (by omega)]
      exact uf_at hX hs k _ (by omega) (by omega)
theorem uf_ok {u : Nat → Nat} {C X s : Nat} (hX : X < 2147483648) : ∀ (k n : Nat), n ≤ X → uf u C X k n = some s → s < C ∧ u s < k ∧ n + ct (fun t => decide (u s < u t ∧ u t < k)) 0 C + ct (fun t => decide (u t = u s)) 0 s = X
  | 0, n, _, h => by cases h
  | k + 1, n, hn, h => by
    unfold uf at h
    cases e : kf (fun t => decide (u t = k)) (nI X) 0 C n with
    | some i =>
      rw [e] at h
      cases h
      obtain ⟨h1, h2, h3⟩ := kf_p _ _ _ _ e
      have h4 := kf_ct hX _ _ _ _ hn e
      have h1 := of_decide_eq_true h1
      refine ⟨by omega, by omega, ?_⟩
      rw [ct_zero (p := fun t => decide (u s < u t ∧ u t < k + 1)) C 0 (fun j _ _ => decide_eq_false (by omega)), Nat.add_zero, h1]
      rw [Nat.sub_zero] at h4
      exact h4
    | none =>
      rw [e] at h
      have h1 := (kf_iff hX C 0 n hn).mp e
      obtain ⟨h2, h3, h4⟩ := uf_ok hX k _ h1 h
      refine ⟨h2, by omega, ?_⟩
      have o := ct_or (r := fun t => decide (u s < u t ∧ u t < k + 1)) (p := fun t => decide (u s < u t ∧ u t < k)) (q := fun t => decide (u t = k)) C 0 (fun j _ _ => by
        by_cases e1 : u j = k
        · rw [decide_eq_true (p := u j = k) e1, decide_eq_true (by omega), decide_eq_false (by omega)]
          rfl
        · rw [decide_eq_false (p := u j = k) e1]
          by_cases e2 : u s < u j ∧ u j < k
          · rw [decide_eq_true e2, decide_eq_true (by omega)]
            rfl
          · rw [decide_eq_false e2, decide_eq_false (by omega)]
            rfl)
      omega
theorem uf_none {u : Nat → Nat} {C X : Nat} (hX : X < 2147483648) : ∀ (k n : Nat), n ≤ X → uf u C X k n = none → n + ct (fun t => decide (u t < k)) 0 C ≤ X
  | 0, n, hn, _ => by
    rw [ct_zero C 0 (fun j _ _ => decide_eq_false (by omega))]
    exact hn
  | k + 1, n, hn, h => by
    unfold uf at h
    cases e : kf (fun t => decide (u t = k)) (nI X) 0 C n with
    | some i =>
      rw [e] at h
      cases h
    | none =>
      rw [e] at h
      have h1 := (kf_iff hX C 0 n hn).mp e
      have h2 := uf_none hX k _ h1 h
      have o := ct_or (r := fun t => decide (u t < k + 1)) (p := fun t => decide (u t < k)) (q := fun t => decide (u t = k)) C 0 (fun j _ _ => by
        by_cases e1 : u j = k
        · rw [decide_eq_true (p := u j = k) e1, decide_eq_true (by omega), decide_eq_false (by omega)]
          rfl
        · rw [decide_eq_false (p := u j = k) e1]
          by_cases e2 : u j < k
          · rw [decide_eq_true e2, decide_eq_true (by omega)]
            rfl
          · rw [decide_eq_false e2, decide_eq_false (by omega)]
            rfl)
      omega
theorem ct_all {p : Nat → Bool} : ∀ (k i : Nat), (∀ j, i ≤ j → j < i + k → p j = true) → ct p i k = k
  | 0, i, h => rfl
  | k + 1, i, h => by
    rw [ct_s, h i (by omega) (by omega), ct_all k (i + 1) fun j h1 h2 => h j (by omega) (by omega), Bool.toNat_true]
    omega
theorem ct_one {p : Nat → Bool} : ∀ (k i : Nat), (∀ j j', i ≤ j → j < i + k → i ≤ j' → j' < i + k → p j = true → p j' = true → j = j') → ct p i k ≤ 1
  | 0, i, h => by rw [ct_z]; omega
  | k + 1, i, h => by
    rw [ct_s]
    have := ct_one k (i + 1) fun j j' h1 h2 h3 h4 => h j j' (by omega) (by omega) (by omega) (by omega)
    cases e : p i
    · rw [Bool.toNat_false]
      omega
    · rw [ct_zero k (i + 1), Bool.toNat_true]
      · omega
      · intro j h1 h2
        cases e2 : p j
        · rfl
        · have := h i j (by omega) (by omega) (by omega) (by omega) e e2
          exact absurd this (by omega)
def rnk (u : Nat → Nat) (C s : Nat) : Nat := ct (fun t => decide (u s < u t ∨ u t = u s ∧ t < s)) 0 C
theorem rnk_eq {u : Nat → Nat} {C s M : Nat} (hs : s < C) (hu : ∀ t, t < C → u t < M) : rnk u C s = ct (fun t => decide (u s < u t ∧ u t < M)) 0 C + ct (fun t => decide (u t = u s)) 0 s := by
  unfold rnk
  have o := ct_or (r := fun t => decide (u s < u t ∨ u t = u s ∧ t < s)) (p := fun t => decide (u s < u t ∧ u t < M)) (q := fun t => decide (u t = u s ∧ t < s)) C 0 (fun j _ hj => by
    have := hu j (by omega)
    by_cases e1 : u j = u s ∧ j < s
    · rw [decide_eq_true e1, decide_eq_true (by omega), decide_eq_false (by omega)]
      rfl
    · rw [decide_eq_false e1]
      by_cases e2 : u s < u j
      · rw [decide_eq_true (by omega), decide_eq_true (by omega)]
        rfl
      · rw [decide_eq_false (by omega), decide_eq_false (by omega)]
        rfl)
  rw [o]
  have sp := ct_split (fun t => decide (u t = u s ∧ t < s)) s (C - s) 0
  rw [show s + (C - s) = C by omega] at sp
  rw [sp, ct_zero (C - s), Nat.add_zero]
  · rw [ct_congr (p := fun t => decide (u t = u s ∧ t < s)) (q := fun t => decide (u t = u s)) s 0]
    intro j _ h2
    by_cases e : u j = u s
    · rw [decide_eq_true e, decide_eq_true (by omega)]
    · rw [decide_eq_false e, decide_eq_false (by omega)]
  · intro j h1 h2
    exact decide_eq_false (by omega)
theorem rnk_lt {u : Nat → Nat} {C s : Nat} (hs : s < C) : rnk u C s < C := by
  unfold rnk
  have s1 := ct_split (fun t => decide (u s < u t ∨ u t = u s ∧ t < s)) s ((C - s - 1) + 1) 0
  rw [show s + ((C - s - 1) + 1) = C by omega, ct_s, decide_eq_false (p := u s < u (0 + s) ∨ u (0 + s) = u s ∧ 0 + s < s) (by rw [Nat.zero_add]; omega), Bool.toNat_false] at s1
  have a := ct_le (fun t => decide (u s < u t ∨ u t = u s ∧ t < s)) s 0
  have b := ct_le (fun t => decide (u s < u t ∨ u t = u s ∧ t < s)) (C - s - 1) (0 + s + 1)
  omega
theorem uf_rnk {u : Nat → Nat} {C X M : Nat} (hX : X < C) (hC : C < 1000) (hu : ∀ t, t < C → u t < M) : uf u C X M 0 = kf (fun s => decide (nI (rnk u C s) = nI X)) (nI 0) 0 C 0 := by
  have hX2 : X < 2147483648 := by omega
  cases e : kf (fun s => decide (nI (rnk u C s) = nI X)) (nI 0) 0 C 0 with
  | some s =>
    obtain ⟨h1, h2, h3⟩ := kf_p _ _ _ _ e
    have h1 := of_decide_eq_true h1
    have hs : s < C := by omega
    have := rnk_lt (u := u) hs
    rw [cI_eq (by omega) (by omega), rnk_eq hs hu] at h1
    exact uf_at hX2 hs M 0 (hu s hs) (by omega)
  | none =>
    cases e2 : uf u C X M 0 with
    | none =>
      have := uf_none hX2 M 0 (by omega) e2
      rw [ct_all C 0 fun j _ h2 => decide_eq_true (hu j (by omega))] at this
    | some s =>
      obtain ⟨h1, h2, h3⟩ := uf_ok hX2 M 0 (by omega) e2
      rw [Nat.zero_add, ← rnk_eq h1 hu] at h3
      have h4 := (kf_iff (by omega) C 0 0 (by omega)).mp e
      have h5 := ct_split (fun s => decide (nI (rnk u C s) = nI X)) s ((C - s - 1) + 1) 0
      rw [show s + ((C - s - 1) + 1) = C by omega, ct_s, decide_eq_true (p := nI (rnk u C (0 + s)) = nI X) (by rw [Nat.zero_add, h3]), Bool.toNat_true] at h5
      omega
end
section
variable {g : z_G} {d : Nat} {f : Nat → Option z_C} {fr : Option Int32 → (Nat → GS) → (Nat → Int32) → (Nat → Nat → Int32) → Nat → Option z_C} {q : Option Nat × Nat × Nat} {P : z_Res → Prop} {B m : Nat} {G : Nat → GS} {I I' : Nat → Int32} {A A' : Nat → Nat → Int32} {J J' : Nat → Int32} {K K' : Nat → Nat → Int32} {S : GS}
def GS.u (S : GS) (s : Nat) : Nat := us S.c S.R S.C s
theorem u_le (hg : GI S) {s : Nat} (hs : s < 5) : S.u s ≤ S.R := by
  have hC := hg.C5
  have hR := hg.RC
  have := sm_le (p := usR S.c S.C s) (m := 1) S.R 0 fun r _ hr => by
    unfold usR
    refine ct_one _ _ fun j j' _ h1 _ h2 h3 h4 => ?_
    have h3 := of_decide_eq_true h3
    have h4 := of_decide_eq_true h4
    exact hg.row r j j' (by omega) (by omega) (by omega) (by omega) (by omega)
  unfold GS.u us
  omega
end
