/-! cycles in their order: the class -/
/-- a cycle's number: size, a, b, beginning -/
def GS.pc (S : GS) (i : Nat) : Bool := decide (i / 25 % 5 < i / 5 % 5) && decide (i / 5 % 5 < S.R) && S.fl (i / 25 % 5) && S.fl (i / 5 % 5) && decide (i % 5 < S.C) && decide (pop (S.cyc (i / 25 % 5) (i / 5 % 5) (i % 5)) = i / 125) && decide (low (S.cyc (i / 25 % 5) (i / 5 % 5) (i % 5)) = i % 5)
def dg (i : Nat) : Nat := i / 125 * 1000 + i / 25 % 5 * 100 + i / 5 % 5 * 10 + i % 5
theorem dg_lt {i j : Nat} (h : i < j) : dg i < dg j := by
  unfold dg
  omega
theorem dg_b {i : Nat} (h : i < 750) : dg i < 6000 := by
  unfold dg
  omega
theorem cI_m1 (p : Nat) : nI (p + 1) + -1 = nI p := by
  have e : (-1 : Int32) = -(nI 1) := by decide
  rw [e, ← Int32.sub_eq_add_neg, cI_sub (by omega)]
  congr 1
theorem low_is {p : Nat → Bool} {c : Nat} (hc : c < 5) (h : p c = true) (h2 : ∀ i, i < c → p i = false) : low p = c := by
  have ne : low p ≠ 5 := fun z => by
    have := low_5.mp z c hc
    rw [h] at this
    cases this
  obtain ⟨l1, l2, l3⟩ := low_sp ne
  by_cases e : low p < c
  · rw [h2 _ e] at l2
    cases l2
  · by_cases e2 : c < low p
    · rw [l3 _ e2] at h
      cases h
    · omega
theorem low_le {p : Nat → Bool} {c : Nat} (hc : c < 5) (h : p c = true) : low p ≤ c := by
  have ne : low p ≠ 5 := fun z => by
    have := low_5.mp z c hc
    rw [h] at this
    cases this
  obtain ⟨l1, l2, l3⟩ := low_sp ne
  apply Classical.byContradiction
  intro z
  rw [l3 c (by omega)] at h
  cases h
theorem kf_sorted {p : Nat → Bool} {e : Nat → Nat} {cnt X : Nat} (hX : X < 2147483648) (hcn : cnt < 1000) (mono : ∀ i j, i < j → j < cnt → e i < e j) : ∀ (k i n : Nat), (∀ idx, i ≤ idx → idx < i + k → (p idx = true ↔ ∃ j, j < cnt ∧ e j = idx)) → (∀ j, j < cnt → (j < n ↔ e j < i)) → (∀ j, j < cnt → e j < i + k) → n ≤ cnt → n ≤ X → kf p (nI X) i k n = if X < cnt then some (e X) else none
  | 0, i, n, h1, h2, h3, h4, h5 => by
    have : n = cnt := by
      apply Classical.byContradiction
      intro z
      have a := h3 n (by omega)
      have := (h2 n (by omega)).mpr (by omega)
      omega
    rw [if_neg (by omega)]
    rfl
  | k + 1, i, n, h1, h2, h3, h4, h5 => by
    unfold kf
    by_cases q : p i = true
    · rw [if_pos q]
      obtain ⟨j, j1, j2⟩ := (h1 i (Nat.le_refl _) (by omega)).mp q
      have jn : j = n := by
        have a1 : ¬ j < n := fun z => by
          have := (h2 j j1).mp z
          omega
        apply Classical.byContradiction
        intro z
        have a2 := mono n j (by omega) j1
        have := (h2 n (by omega)).mpr (by omega)
        omega
      subst jn
      by_cases q2 : X = j
      · subst q2
        rw [if_pos rfl, if_pos j1, j2]
      · have : ¬ nI X = nI j := by
          rw [cI_eq hX (by omega)]
          exact q2
        rw [if_neg this]
        refine kf_sorted hX hcn mono k (i + 1) (j + 1) (fun idx a b => h1 idx (by omega) (by omega)) (fun j' hj' => ?_) (fun j' hj' => by have := h3 j' hj'; omega) (by omega) (by omega)
        have a1 := h2 j' hj'
        constructor
        · intro z
          by_cases z2 : j' = j
          · rw [z2]; omega
          · have := a1.mp (by omega); omega
        · intro z
          by_cases z2 : j < j'
          · have := mono j j' z2 hj'; omega
          · omega
    · rw [if_neg q]
      refine kf_sorted hX hcn mono k (i + 1) n (fun idx a b => h1 idx (by omega) (by omega)) (fun j' hj' => ?_) (fun j' hj' => by have := h3 j' hj'; omega) h4 h5
      have a1 := h2 j' hj'
      constructor
      · intro z
        have := a1.mp z
        omega
      · intro z
        refine a1.mpr ?_
        by_cases z2 : e j' = i
        · exact absurd ((h1 i (Nat.le_refl _) (by omega)).mpr ⟨j', hj', z2⟩) q
        · omega
/-- e holds, in their order, the cycles of pairs and columns below L -/
def SO (S : GS) (F : Nat → Int32) (e : Nat → Nat) (cnt L : Nat) : Prop := (∀ i j, i < j → j < cnt → e i < e j) ∧ (∀ k, k < cnt → F k = nI (dg (e k))) ∧ (∀ k, k < cnt → e k < 750) ∧ (∀ i, i < 750 → ((∃ j, j < cnt ∧ e j = i) ↔ (S.pc i = true ∧ i % 125 < L)))
theorem SO_skip {S : GS} {F : Nat → Int32} {e : Nat → Nat} {cnt L L' : Nat} (h : SO S F e cnt L) (hL : L ≤ L') (hn : ∀ i, i < 750 → L ≤ i % 125 → i % 125 < L' → S.pc i = false) : SO S F e cnt L' := by
  obtain ⟨h1, h2, h3, h4⟩ := h
  refine ⟨h1, h2, h3, fun i hi => ?_⟩
  rw [h4 i hi]
  constructor
  · rintro ⟨a, b⟩
    exact ⟨a, by omega⟩
  · rintro ⟨a, b⟩
    refine ⟨a, ?_⟩
    apply Classical.byContradiction
    intro z
    rw [hn i hi (by omega) b] at a
    cases a
section
variable {g : z_G} {d : Nat} {f : Nat → Option z_C} {q : Option Nat × Nat × Nat} {P : z_Res → Prop} {B : Nat} {G : Nat → GS} {I : Nat → Int32} {A : Nat → Nat → Int32}
def insF (F : Nat → Int32) (e : Nat → Nat) (cnt p : Nat) : Nat → Int32 := fun k => if p < k ∧ k ≤ cnt then nI (dg (e (k - 1))) else F k
theorem insF_step {F : Nat → Int32} {e : Nat → Nat} {cnt p : Nat} (hp : p + 1 ≤ cnt) (hF : F p = nI (dg (e p))) : upd (insF F e cnt (p + 1)) (p + 1) (insF F e cnt (p + 1) p) = insF F e cnt p := by
  funext k
  by_cases q : k = p + 1
  · subst q
    rw [upd_at]
    unfold insF
    rw [if_neg (by omega), if_pos (by omega), hF]
    rfl
  · rw [upd_ne q]
    unfold insF
    have : (p + 1 < k ∧ k ≤ cnt) = (p < k ∧ k ≤ cnt) := propext (by omega)
    simp only [this]
def insE (e : Nat → Nat) (p x : Nat) : Nat → Nat := fun k => if k < p then e k else if k = p then x else e (k - 1)
theorem pc_at {S : GS} {n a b c : Nat} (ha : a < 5) (hb : b < 5) (hc : c < 5) : S.pc (n * 125 + a * 25 + b * 5 + c) = (decide (a < b) && decide (b < S.R) && S.fl a && S.fl b && decide (c < S.C) && decide (pop (S.cyc a b c) = n) && decide (low (S.cyc a b c) = c)) := by
  unfold GS.pc
  rw [show (n * 125 + a * 25 + b * 5 + c) / 125 = n by omega, show (n * 125 + a * 25 + b * 5 + c) / 25 % 5 = a by omega, show (n * 125 + a * 25 + b * 5 + c) / 5 % 5 = b by omega, show (n * 125 + a * 25 + b * 5 + c) % 5 = c by omega]
theorem pc_no {S : GS} {a b c i : Nat} (ha : a < 5) (hb : b < 5) (hc : c < 5) (h : i % 125 = a * 25 + b * 5 + c) (hn : ¬ (a < b ∧ b < S.R ∧ S.fl a = true ∧ S.fl b = true ∧ c < S.C ∧ low (S.cyc a b c) = c)) : S.pc i = false := by
  rw [show i = i / 125 * 125 + a * 25 + b * 5 + c by omega, pc_at ha hb hc]
  cases z : (decide (a < b) && decide (b < S.R) && S.fl a && S.fl b && decide (c < S.C) && decide (pop (S.cyc a b c) = i / 125) && decide (low (S.cyc a b c) = c))
  · rfl
  · simp only [Bool.and_eq_true, decide_eq_true_eq] at z
    obtain ⟨⟨⟨⟨⟨⟨z1, z2⟩, z3⟩, z4⟩, z5⟩, z6⟩, z7⟩ := z
    exact absurd ⟨z1, z2, z3, z4, z5, z7⟩ hn
/-- the columns of the cycles of the columns below c -/
def sn (S : GS) (a b c x : Nat) : Bool := anyB (fun i => S.cyc a b i x) c
end
