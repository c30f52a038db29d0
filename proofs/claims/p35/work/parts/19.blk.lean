/-! arrays with values that count below their length; blocks of cells in the heap; steps counted up -/
def arr (n : Nat) (f : Nat → Int32) : Nat → Int32 := fun k => if k < n then f k else 0
theorem arr_at {n k : Nat} (f : Nat → Int32) (h : k < n) : arr n f k = f k := if_pos h
theorem arr_upd {n k : Nat} (f : Nat → Int32) (x : Int32) (h : k < n) : upd (arr n f) k x = arr n (upd f k x) := by
  funext j
  show (if j = k then x else if j < n then f j else 0) = if j < n then (if j = k then x else f j) else 0
  by_cases e : j = k
  · subst e
    rw [if_pos rfl, if_pos h, if_pos rfl]
  · rw [if_neg e, if_neg e]
theorem arr_congr {n : Nat} {f f' : Nat → Int32} (h : ∀ k, k < n → f k = f' k) : arr n f = arr n f' := by
  funext j
  unfold arr
  by_cases e : j < n
  · rw [if_pos e, if_pos e, h j e]
  · rw [if_neg e, if_neg e]
theorem arr_0 (n : Nat) : (fun _ => 0 : Nat → Int32) = arr n (fun _ => 0) := by
  funext j
  unfold arr
  split <;> rfl
theorem upd_at (f : Nat → Int32) (k : Nat) (x : Int32) : upd f k x k = x := if_pos rfl
/-- n cells of the heap from a on, told by w -/
def ow (f : Nat → Option z_C) (a n : Nat) (w : Nat → z_C) : Nat → Option z_C := fun x => if a ≤ x ∧ x < a + n then some (w (x - a)) else f x
def HB (f : Nat → Option z_C) (a n : Nat) (w : Nat → z_C) : Prop := ∀ k, k < n → f (a + k) = some (w k)
theorem ow_in (f : Nat → Option z_C) (a n : Nat) (w : Nat → z_C) {k : Nat} (h : k < n) : ow f a n w (a + k) = some (w k) := by
  unfold ow
  rw [if_pos (by omega), show a + k - a = k by omega]
theorem ow_out {f : Nat → Option z_C} {a n : Nat} {w : Nat → z_C} {x : Nat} (h : x < a ∨ a + n ≤ x) : ow f a n w x = f x := by
  unfold ow
  rw [if_neg (by omega)]
theorem ow_HB (f : Nat → Option z_C) (a n : Nat) (w : Nat → z_C) : HB (ow f a n w) a n w := fun _ h => ow_in f a n w h
theorem ow_eq {f f' : Nat → Option z_C} {a n : Nat} {w : Nat → z_C} (h : HB f' a n w) (ho : ∀ x, x < a ∨ a + n ≤ x → f' x = f x) : f' = ow f a n w := by
  funext x
  by_cases e : a ≤ x ∧ x < a + n
  · obtain ⟨k, rfl⟩ := Nat.exists_eq_add_of_le e.1
    rw [ow_in f a n w (by omega)]
    exact h k (by omega)
  · rw [ow_out (by omega), ho x (by omega)]
theorem ow_id {f : Nat → Option z_C} {a n : Nat} {w : Nat → z_C} (h : HB f a n w) : ow f a n w = f := (ow_eq h fun _ _ => rfl).symm
theorem ow_congr {f : Nat → Option z_C} {a n : Nat} {w w' : Nat → z_C} (h : ∀ k, k < n → w k = w' k) : ow f a n w = ow f a n w' :=
  ow_eq (fun k hk => by rw [ow_in f a n w hk, h k hk]) (fun _ hx => ow_out hx)
theorem ow_ow (f : Nat → Option z_C) (a n : Nat) (w w' : Nat → z_C) : ow (ow f a n w) a n w' = ow f a n w' :=
  ow_eq (ow_HB _ _ _ _) (fun x hx => by rw [ow_out hx, ow_out hx])
theorem ow_up {f : Nat → Option z_C} {a n : Nat} {w : Nat → z_C} {k : Nat} (x : z_C) (h : k < n) : z_up (ow f a n w) (a + k) x = ow f a n (fun i => if i = k then x else w i) := by
  refine ow_eq (fun i hi => ?_) (fun y hy => ?_)
  · by_cases e : i = k
    · rw [e, z_up_self, if_pos rfl]
    · rw [z_up_ne (by omega), ow_in f a n w hi, if_neg e]
  · rw [z_up_ne (by omega), ow_out hy]
theorem ow_upo {f : Nat → Option z_C} {a n : Nat} {w : Nat → z_C} {y : Nat} (x : z_C) (h : y < a ∨ a + n ≤ y) : z_up (ow f a n w) y x = ow (z_up f y x) a n w := by
  refine ow_eq (fun i hi => ?_) (fun z hz => ?_)
  · rw [z_up_ne (by omega), ow_in f a n w hi]
  · by_cases e : z = y
    · rw [e, z_up_self, z_up_self]
    · rw [z_up_ne e, z_up_ne e, ow_out hz]
/-- k steps from i on -/
def itr {α : Type} (f : Nat → α → α) : Nat → Nat → α → α
  | _, 0, s => s
  | i, k + 1, s => itr f (i + 1) k (f i s)
theorem z_iter {α : Type} (T : Nat → α → Prop) (f : Nat → α → α) (I : Nat → α → Prop) (n : Nat) (hs : ∀ i s, i < n → I i s → T i s = T (i + 1) (f i s) ∧ I (i + 1) (f i s)) : ∀ (k i : Nat) (s : α), i + k = n → I i s → T i s = T n (itr f i k s) ∧ I n (itr f i k s)
  | 0, i, s, h, h2 => by
    have : i = n := by omega
    subst this
    exact ⟨rfl, h2⟩
  | k + 1, i, s, h, h2 => by
    obtain ⟨h3, h4⟩ := hs i s (by omega) h2
    rw [h3]
    exact z_iter T f I n hs k (i + 1) _ (by omega) h4
/-- how many of k numbers from i on have p -/
def ct (p : Nat → Bool) : Nat → Nat → Nat
  | _, 0 => 0
  | i, k + 1 => (p i).toNat + ct p (i + 1) k
theorem ct_z (p : Nat → Bool) (i : Nat) : ct p i 0 = 0 := rfl
theorem ct_s (p : Nat → Bool) (i k : Nat) : ct p i (k + 1) = (p i).toNat + ct p (i + 1) k := rfl
theorem ct_le (p : Nat → Bool) : ∀ k i, ct p i k ≤ k
  | 0, _ => Nat.le_refl _
  | k + 1, i => by
    have := ct_le p k (i + 1)
    have : (p i).toNat ≤ 1 := by cases p i <;> decide
    unfold ct
    omega
theorem ct_congr {p q : Nat → Bool} : ∀ k i, (∀ j, i ≤ j → j < i + k → p j = q j) → ct p i k = ct q i k
  | 0, _, _ => rfl
  | k + 1, i, h => by
    unfold ct
    rw [h i (Nat.le_refl _) (by omega), ct_congr k (i + 1) (fun j h1 h2 => h j (by omega) (by omega))]
/-- sums -/
def sm (p : Nat → Nat) : Nat → Nat → Nat
  | _, 0 => 0
  | i, k + 1 => p i + sm p (i + 1) k
theorem sm_z (p : Nat → Nat) (i : Nat) : sm p i 0 = 0 := rfl
theorem sm_s (p : Nat → Nat) (i k : Nat) : sm p i (k + 1) = p i + sm p (i + 1) k := rfl
theorem sm_le {p : Nat → Nat} {m : Nat} : ∀ k i, (∀ j, i ≤ j → j < i + k → p j ≤ m) → sm p i k ≤ k * m
  | 0, _, _ => by unfold sm; omega
  | k + 1, i, h => by
    have h1 := sm_le (p := p) (m := m) k (i + 1) (fun j h1 h2 => h j (by omega) (by omega))
    have h2 := h i (Nat.le_refl _) (by omega)
    unfold sm
    rw [Nat.add_mul, Nat.one_mul]
    omega
theorem sm_congr {p q : Nat → Nat} : ∀ k i, (∀ j, i ≤ j → j < i + k → p j = q j) → sm p i k = sm q i k
  | 0, _, _ => rfl
  | k + 1, i, h => by
    unfold sm
    rw [h i (Nat.le_refl _) (by omega), sm_congr k (i + 1) (fun j h1 h2 => h j (by omega) (by omega))]
theorem nar_0 : vp_nar .boolean (nI 0) = nI 0 := by decide +kernel
theorem nar_1 : vp_nar .boolean (nI 1) = nI 1 := by decide +kernel
theorem nar_b (b : Bool) : vp_nar .boolean (zb b) = zb b := by cases b <;> decide +kernel
theorem z_up_up (f : Nat → Option z_C) (a : Nat) (x y : z_C) : z_up (z_up f a x) a y = z_up f a y := by
  funext j
  unfold z_up
  split <;> rfl
