/-! plain facts: small numbers as ints, cells (5: empty), sets of symbols as bits -/
def ce (n : Nat) : Int32 := if n = 5 then -1 else nI n
def zb (b : Bool) : Int32 := nI b.toNat
def m5 (p : Nat → Bool) : Nat := (p 0).toNat + 2 * (p 1).toNat + 4 * (p 2).toNat + 8 * (p 3).toNat + 16 * (p 4).toNat
def sS (p : Nat → Bool) : Int32 := nI (m5 p)
theorem z_le31 {k : Nat} (h : k < 2147483648) : k < 2 ^ 31 := h
theorem cI_eq {a b : Nat} (ha : a < 2147483648) (hb : b < 2147483648) : (nI a = nI b) = (a = b) := propext (nI_eq (z_le31 ha) (z_le31 hb))
theorem cI_lt {a b : Nat} (ha : a < 2147483648) (hb : b < 2147483648) : (nI a < nI b) = (a < b) := propext (nI_ltI (z_le31 ha) (z_le31 hb))
theorem cI_cl {a : Nat} (ha : a < 2147483648) : (nI a).toNatClampNeg = a := nI_clamp (z_le31 ha)
theorem cI_ix {a n : Nat} (h : a < n) (hn : n < 2147483648) : z_idx (nI a) n = true := by
  have h1 : ¬ nI a < 0 := nI_pos (z_le31 (by omega))
  simp [z_idx, h1, cI_cl (show a < 2147483648 by omega), h]
theorem cI_sub {a b : Nat} (h : b ≤ a) : nI a - nI b = nI (a - b) := pk_sub h
theorem ce_lt {n : Nat} (h : n < 5) : ce n = nI n := by unfold ce; rw [if_neg (by omega)]
theorem ce_5 : ce 5 = -1 := rfl
theorem ce_em {n : Nat} (h : n ≤ 5) : (ce n = -1) = (n = 5) := by
  refine propext ⟨fun q => ?_, fun q => by rw [q]; rfl⟩
  have : ∀ n, n ≤ 5 → ce n = -1 → n = 5 := by decide +kernel
  exact this n h q
theorem ce_inj {n m : Nat} (h : n ≤ 5) (h2 : m ≤ 5) : (ce n = ce m) = (n = m) := by
  refine propext ⟨fun q => ?_, fun q => by rw [q]⟩
  have : ∀ n, n ≤ 5 → ∀ m, m ≤ 5 → ce n = ce m → n = m := by decide +kernel
  exact this n h m h2 q
theorem ce_eqI {n s : Nat} (h : n ≤ 5) (h2 : s < 5) : (ce n = nI s) = (n = s) := by
  rw [← ce_lt h2, ce_inj h (by omega)]
theorem m5_lt (p : Nat → Bool) : m5 p < 32 := by
  unfold m5
  have : ∀ b : Bool, b.toNat ≤ 1 := by decide
  have h0 := this (p 0); have h1 := this (p 1); have h2 := this (p 2); have h3 := this (p 3); have h4 := this (p 4)
  omega
theorem sS_congr {p q : Nat → Bool} (h : ∀ s, s < 5 → p s = q s) : sS p = sS q := by
  unfold sS m5
  rw [h 0 (by omega), h 1 (by omega), h 2 (by omega), h 3 (by omega), h 4 (by omega)]
theorem m5_congr {p q : Nat → Bool} (h : ∀ s, s < 5 → p s = q s) : m5 p = m5 q := by
  unfold m5
  rw [h 0 (by omega), h 1 (by omega), h 2 (by omega), h 3 (by omega), h 4 (by omega)]
def m5b (a b c d e : Bool) : Nat := a.toNat + 2 * b.toNat + 4 * c.toNat + 8 * d.toNat + 16 * e.toNat
theorem sS_and (p q : Nat → Bool) : sS p &&& sS q = sS (fun s => p s && q s) := by
  have : ∀ a b c d e a' b' c' d' e' : Bool, nI (m5b a b c d e) &&& nI (m5b a' b' c' d' e') = nI (m5b (a && a') (b && b') (c && c') (d && d') (e && e')) := by decide +kernel
  exact this _ _ _ _ _ _ _ _ _ _
theorem sS_or (p q : Nat → Bool) : sS p ||| sS q = sS (fun s => p s || q s) := by
  have : ∀ a b c d e a' b' c' d' e' : Bool, nI (m5b a b c d e) ||| nI (m5b a' b' c' d' e') = nI (m5b (a || a') (b || b') (c || c') (d || d') (e || e')) := by decide +kernel
  exact this _ _ _ _ _ _ _ _ _ _
theorem sS_andn (p q : Nat → Bool) : sS p &&& (sS q ^^^ (-1)) = sS (fun s => p s && !q s) := by
  have : ∀ a b c d e a' b' c' d' e' : Bool, nI (m5b a b c d e) &&& (nI (m5b a' b' c' d' e') ^^^ (-1)) = nI (m5b (a && !a') (b && !b') (c && !c') (d && !d') (e && !e')) := by decide +kernel
  exact this _ _ _ _ _ _ _ _ _ _
theorem sS_xor (p q : Nat → Bool) : sS p ^^^ sS q = sS (fun s => p s ^^ q s) := by
  have : ∀ a b c d e a' b' c' d' e' : Bool, nI (m5b a b c d e) ^^^ nI (m5b a' b' c' d' e') = nI (m5b (a ^^ a') (b ^^ b') (c ^^ c') (d ^^ d') (e ^^ e')) := by decide +kernel
  exact this _ _ _ _ _ _ _ _ _ _
theorem sS_m1 (p : Nat → Bool) : sS p &&& (-1) = sS p := by
  have : ∀ a b c d e : Bool, nI (m5b a b c d e) &&& (-1) = nI (m5b a b c d e) := by decide +kernel
  exact this _ _ _ _ _
theorem sS_bit (p : Nat → Bool) {s : Nat} (hs : s < 5) : (sS p >>> (nI s &&& 31)) &&& nI 1 = zb (p s) := by
  have : ∀ a b c d e : Bool, (nI (m5b a b c d e) >>> (nI 0 &&& 31)) &&& nI 1 = zb a ∧ (nI (m5b a b c d e) >>> (nI 1 &&& 31)) &&& nI 1 = zb b ∧ (nI (m5b a b c d e) >>> (nI 2 &&& 31)) &&& nI 1 = zb c ∧ (nI (m5b a b c d e) >>> (nI 3 &&& 31)) &&& nI 1 = zb d ∧ (nI (m5b a b c d e) >>> (nI 4 &&& 31)) &&& nI 1 = zb e := by decide +kernel
  obtain ⟨h0, h1, h2, h3, h4⟩ := this (p 0) (p 1) (p 2) (p 3) (p 4)
  match s, hs with
  | 0, _ => exact h0
  | 1, _ => exact h1
  | 2, _ => exact h2
  | 3, _ => exact h3
  | 4, _ => exact h4
theorem sS_one {s : Nat} (hs : s < 5) : nI 1 <<< (nI s &&& 31) = sS (fun t => decide (t = s)) := by
  have : ∀ s, s < 5 → nI 1 <<< (nI s &&& 31) = sS (fun t => decide (t = s)) := by decide +kernel
  exact this s hs
theorem sS_full {C : Nat} (hs : C ≤ 5) : (nI 1 <<< (nI C &&& 31)) - nI 1 = sS (fun t => decide (t < C)) := by
  have : ∀ C, C ≤ 5 → (nI 1 <<< (nI C &&& 31)) - nI 1 = sS (fun t => decide (t < C)) := by decide +kernel
  exact this C hs
theorem sS_0 : nI 0 = sS (fun _ => false) := rfl
theorem sS_eq {p q : Nat → Bool} : (sS p = sS q) = (∀ s, s < 5 → p s = q s) := by
  refine propext ⟨fun h => ?_, sS_congr⟩
  have : ∀ a b c d e a' b' c' d' e' : Bool, nI (m5b a b c d e) = nI (m5b a' b' c' d' e') → a = a' ∧ b = b' ∧ c = c' ∧ d = d' ∧ e = e' := by decide +kernel
  obtain ⟨h0, h1, h2, h3, h4⟩ := this _ _ _ _ _ _ _ _ _ _ h
  intro s hs
  match s, hs with
  | 0, _ => exact h0
  | 1, _ => exact h1
  | 2, _ => exact h2
  | 3, _ => exact h3
  | 4, _ => exact h4
theorem sS_eq0 {p : Nat → Bool} : (sS p = nI 0) = (∀ s, s < 5 → p s = false) := by rw [sS_0, sS_eq]
theorem zb_0 (b : Bool) : (zb b = nI 0) = (b = false) := by cases b <;> simp [zb, cI_eq]
theorem zb_1 (b : Bool) : (zb b = nI 1) = (b = true) := by cases b <;> simp [zb, cI_eq]
theorem upd_ne {f : Nat → Int32} {k j : Nat} {x : Int32} (h : j ≠ k) : upd f k x j = f j := if_neg h
/-- cells with one changed -/
def nu (c : Nat → Nat) (k s : Nat) : Nat → Nat := fun j => if j = k then s else c j
theorem upd_zc (c : Nat → Nat) (k s : Nat) : upd (fun k => ce (c k)) k (ce s) = fun j => ce (nu c k s j) := by
  funext j
  simp only [upd, nu]
  by_cases h : j = k
  · simp [h]
  · simp [h]
theorem upd_zcI (c : Nat → Nat) (k : Nat) {s : Nat} (hs : s < 5) : upd (fun k => ce (c k)) k (nI s) = fun j => ce (nu c k s j) := by rw [← ce_lt hs, upd_zc]
theorem upd_zcE (c : Nat → Nat) (k : Nat) : upd (fun k => ce (c k)) k (-1) = fun j => ce (nu c k 5 j) := by rw [← ce_5, upd_zc]
theorem z_up_self (f : Nat → Option z_C) (a : Nat) (x : z_C) : z_up f a x a = some x := if_pos rfl
theorem z_up_ne {f : Nat → Option z_C} {a b : Nat} {x : z_C} (h : b ≠ a) : z_up f a x b = f b := if_neg h
theorem okS_0 (n : Nat) : z_okS n [] = true := by cases n <;> rfl
theorem okS_I (n : Nat) (x : Int32) (r : List Value) : z_okS (n + 1) (.int x :: r) = z_okS n r := by simp [z_okS, Value.category]
theorem okS_R (n : Nat) (x : Nat) (r : List Value) : z_okS (n + 1) (.ref x :: r) = z_okS n r := by simp [z_okS, Value.category]
theorem okS_A (n : Nat) (x : Nat) (r : List Value) : z_okS (n + 1) (.retAddr x :: r) = z_okS n r := by simp [z_okS, Value.category]
theorem z_k_r (v : Option Value) (h : z_H) (K : Option Value → z_H → Prop) (P : z_Res → Prop) : z_k (.inr v, h) K P = K v h := rfl
theorem z_k_l (E : String) (h : z_H) (K : Option Value → z_H → Prop) (P : z_Res → Prop) : z_k (.inl E, h) K P = P (.inl E, h) := rfl
theorem z_push_s (v : Value) (st : List Value) : z_push (some v) st = v :: st := rfl
theorem z_push_n (st : List Value) : z_push none st = st := rfl
/-- rows and columns in which a symbol stands -/
def rU (c : Nat → Nat) (r s : Nat) : Bool := (c (r * 5) == s) || (c (r * 5 + 1) == s) || (c (r * 5 + 2) == s) || (c (r * 5 + 3) == s) || (c (r * 5 + 4) == s)
def cU (c : Nat → Nat) (j s : Nat) : Bool := decide (j < 5) && ((c j == s) || (c (5 + j) == s) || (c (10 + j) == s) || (c (15 + j) == s) || (c (20 + j) == s))
/-- how many of the first n cells are filled -/
def nF (c : Nat → Nat) : Nat → Nat
  | 0 => 0
  | n + 1 => nF c n + (if c n = 5 then 0 else 1)
theorem nF_le (c : Nat → Nat) : ∀ n, nF c n ≤ n
  | 0 => Nat.le_refl _
  | n + 1 => by unfold nF; have := nF_le c n; split <;> omega
theorem nF_out (c : Nat → Nat) (k s : Nat) : ∀ n, n ≤ k → nF (nu c k s) n = nF c n
  | 0, _ => rfl
  | n + 1, h => by
    unfold nF
    rw [nF_out c k s n (by omega)]
    have : nu c k s n = c n := if_neg (by omega)
    rw [this]
theorem nF_put (c : Nat → Nat) {k s : Nat} (hs : s ≠ 5) (hk : c k = 5) : ∀ n, k < n → nF (nu c k s) n = nF c n + 1
  | 0, h => by omega
  | n + 1, h => by
    unfold nF
    by_cases e : k = n
    · subst e
      rw [nF_out c k s k (Nat.le_refl _)]
      have : nu c k s k = s := if_pos rfl
      rw [this, if_neg hs, if_pos hk]
    · rw [nF_put c hs hk n (by omega)]
      have : nu c k s n = c n := if_neg (fun q => e q.symm)
      rw [this]
      omega
theorem nF_take (c : Nat → Nat) {k : Nat} (hk : c k ≠ 5) : ∀ n, k < n → nF (nu c k 5) n + 1 = nF c n
  | 0, h => by omega
  | n + 1, h => by
    unfold nF
    by_cases e : k = n
    · subst e
      rw [nF_out c k 5 k (Nat.le_refl _)]
      have : nu c k 5 k = 5 := if_pos rfl
      rw [this, if_pos rfl, if_neg hk]
    · have := nF_take c hk n (by omega)
      have h2 : nu c k 5 n = c n := if_neg (fun q => e q.symm)
      rw [h2]
      omega
theorem nu_s (c : Nat → Nat) (k s : Nat) : nu c k s k = s := if_pos rfl
theorem nu_n {c : Nat → Nat} {k s j : Nat} (h : j ≠ k) : nu c k s j = c j := if_neg h
theorem five {r : Nat} (h : r < 5) : r = 0 ∨ r = 1 ∨ r = 2 ∨ r = 3 ∨ r = 4 := by omega
theorem rU_iff (c : Nat → Nat) (r s : Nat) : rU c r s = true ↔ ∃ j, j < 5 ∧ c (r * 5 + j) = s := by
  simp only [rU, Bool.or_eq_true, beq_iff_eq]
  constructor
  · rintro ((((h | h) | h) | h) | h)
    · exact ⟨0, by omega, h⟩
    · exact ⟨1, by omega, h⟩
    · exact ⟨2, by omega, h⟩
    · exact ⟨3, by omega, h⟩
    · exact ⟨4, by omega, h⟩
  · rintro ⟨j, hj, h⟩
    rcases five hj with rfl | rfl | rfl | rfl | rfl
    · exact Or.inl (Or.inl (Or.inl (Or.inl h)))
    · exact Or.inl (Or.inl (Or.inl (Or.inr h)))
    · exact Or.inl (Or.inl (Or.inr h))
    · exact Or.inl (Or.inr h)
    · exact Or.inr h
theorem cU_iff (c : Nat → Nat) (j s : Nat) : cU c j s = true ↔ j < 5 ∧ ∃ r, r < 5 ∧ c (r * 5 + j) = s := by
  simp only [cU, Bool.and_eq_true, decide_eq_true_eq, Bool.or_eq_true, beq_iff_eq]
  refine and_congr_right fun hj => ?_
  constructor
  · rintro ((((h | h) | h) | h) | h)
    · exact ⟨0, by omega, by rw [Nat.zero_mul, Nat.zero_add]; exact h⟩
    · exact ⟨1, by omega, h⟩
    · exact ⟨2, by omega, h⟩
    · exact ⟨3, by omega, h⟩
    · exact ⟨4, by omega, h⟩
  · rintro ⟨r, hr, h⟩
    rcases five hr with rfl | rfl | rfl | rfl | rfl
    · rw [Nat.zero_mul, Nat.zero_add] at h; exact Or.inl (Or.inl (Or.inl (Or.inl h)))
    · exact Or.inl (Or.inl (Or.inl (Or.inr h)))
    · exact Or.inl (Or.inl (Or.inr h))
    · exact Or.inl (Or.inr h)
    · exact Or.inr h
theorem b_ext2 {x y : Bool} (h : x = true ↔ y = true) : x = y := by cases x <;> cases y <;> simp_all
/-- a symbol put into an empty cell -/
theorem rU_put {c : Nat → Nat} {r j s t : Nat} (hj : j < 5) (he : c (r * 5 + j) = 5) (ht : t < 5) (r' : Nat) : rU (nu c (r * 5 + j) s) r' t = (if r' = r then rU c r t || decide (t = s) else rU c r' t) := by
  apply b_ext2
  rw [rU_iff]
  by_cases e : r' = r
  · subst e
    rw [if_pos rfl, Bool.or_eq_true, rU_iff, decide_eq_true_eq]
    constructor
    · rintro ⟨i, hi, h⟩
      by_cases q : i = j
      · subst q; rw [nu_s] at h; exact Or.inr h.symm
      · rw [nu_n (by omega)] at h; exact Or.inl ⟨i, hi, h⟩
    · rintro (⟨i, hi, h⟩ | h)
      · refine ⟨i, hi, ?_⟩
        rw [nu_n, h]
        intro q
        rw [q, he] at h
        omega
      · exact ⟨j, hj, by rw [nu_s, h]⟩
  · rw [if_neg e, rU_iff]
    constructor
    · rintro ⟨i, hi, h⟩
      rw [nu_n (by omega)] at h; exact ⟨i, hi, h⟩
    · rintro ⟨i, hi, h⟩
      exact ⟨i, hi, by rw [nu_n (by omega)]; exact h⟩
theorem cU_put {c : Nat → Nat} {r j s t : Nat} (hr : r < 5) (hj : j < 5) (he : c (r * 5 + j) = 5) (ht : t < 5) (j' : Nat) : cU (nu c (r * 5 + j) s) j' t = (if j' = j then cU c j t || decide (t = s) else cU c j' t) := by
  apply b_ext2
  rw [cU_iff]
  by_cases e : j' = j
  · subst e
    rw [if_pos rfl, Bool.or_eq_true, cU_iff, decide_eq_true_eq]
    constructor
    · rintro ⟨hj', i, hi, h⟩
      by_cases q : i = r
      · subst q; rw [nu_s] at h; exact Or.inr h.symm
      · rw [nu_n (by omega)] at h; exact Or.inl ⟨hj', i, hi, h⟩
    · rintro (⟨hj', i, hi, h⟩ | h)
      · refine ⟨hj', i, hi, ?_⟩
        rw [nu_n, h]
        intro q
        rw [q, he] at h
        omega
      · exact ⟨hj, r, hr, by rw [nu_s, h]⟩
  · rw [if_neg e, cU_iff]
    constructor
    · rintro ⟨hj', i, hi, h⟩
      rw [nu_n (by omega)] at h; exact ⟨hj', i, hi, h⟩
    · rintro ⟨hj', i, hi, h⟩
      exact ⟨hj', i, hi, by rw [nu_n (by omega)]; exact h⟩
/-- a symbol taken out of a cell, that stands but there in its row (its column) -/
theorem rU_take {c : Nat → Nat} {r j t : Nat} (hj : j < 5) (hu : ∀ i, i < 5 → c (r * 5 + i) = c (r * 5 + j) → i = j) (ht : t < 5) (r' : Nat) : rU (nu c (r * 5 + j) 5) r' t = (if r' = r then rU c r t && !decide (t = c (r * 5 + j)) else rU c r' t) := by
  apply b_ext2
  rw [rU_iff]
  by_cases e : r' = r
  · subst e
    rw [if_pos rfl, Bool.and_eq_true, rU_iff, Bool.not_eq_true', decide_eq_false_iff_not]
    constructor
    · rintro ⟨i, hi, h⟩
      by_cases q : i = j
      · subst q; rw [nu_s] at h; omega
      · rw [nu_n (by omega)] at h; exact ⟨⟨i, hi, h⟩, fun z => q (hu i hi (by rw [h, z]))⟩
    · rintro ⟨⟨i, hi, h⟩, hn⟩
      refine ⟨i, hi, ?_⟩
      rw [nu_n, h]
      intro q
      have : i = j := by omega
      subst this
      exact hn h.symm
  · rw [if_neg e, rU_iff]
    constructor
    · rintro ⟨i, hi, h⟩
      rw [nu_n (by omega)] at h; exact ⟨i, hi, h⟩
    · rintro ⟨i, hi, h⟩
      exact ⟨i, hi, by rw [nu_n (by omega)]; exact h⟩
theorem cU_take {c : Nat → Nat} {r j t : Nat} (hr : r < 5) (hj : j < 5) (hu : ∀ i, i < 5 → c (i * 5 + j) = c (r * 5 + j) → i = r) (ht : t < 5) (j' : Nat) : cU (nu c (r * 5 + j) 5) j' t = (if j' = j then cU c j t && !decide (t = c (r * 5 + j)) else cU c j' t) := by
  apply b_ext2
  rw [cU_iff]
  by_cases e : j' = j
  · subst e
    rw [if_pos rfl, Bool.and_eq_true, cU_iff, Bool.not_eq_true', decide_eq_false_iff_not]
    constructor
    · rintro ⟨hj', i, hi, h⟩
      by_cases q : i = r
      · subst q; rw [nu_s] at h; omega
      · rw [nu_n (by omega)] at h; exact ⟨⟨hj', i, hi, h⟩, fun z => q (hu i hi (by rw [h, z]))⟩
    · rintro ⟨⟨hj', i, hi, h⟩, hn⟩
      refine ⟨hj', i, hi, ?_⟩
      rw [nu_n, h]
      intro q
      have : i = r := by omega
      subst this
      exact hn h.symm
  · rw [if_neg e, cU_iff]
    constructor
    · rintro ⟨hj', i, hi, h⟩
      rw [nu_n (by omega)] at h; exact ⟨hj', i, hi, h⟩
    · rintro ⟨hj', i, hi, h⟩
      exact ⟨hj', i, hi, by rw [nu_n (by omega)]; exact h⟩
theorem upd_fn {f : Nat → Int32} {k : Nat} {x : Int32} {f' : Nat → Int32} (h1 : f' k = x) (h2 : ∀ j, j ≠ k → f' j = f j) : upd f k x = f' := by
  funext j
  by_cases e : j = k
  · rw [e, h1]; exact if_pos rfl
  · rw [h2 j e]; exact if_neg e
