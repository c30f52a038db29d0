/-! sets of five counted; full rows; cycles of two rows -/
theorem pop_congr {p q : Nat → Bool} (h : ∀ s, s < 5 → p s = q s) : pop p = pop q := by
  unfold pop
  rw [h 0 (by omega), h 1 (by omega), h 2 (by omega), h 3 (by omega), h 4 (by omega)]
theorem low_congr {p q : Nat → Bool} (h : ∀ s, s < 5 → p s = q s) : low p = low q := by
  unfold low
  rw [h 0 (by omega), h 1 (by omega), h 2 (by omega), h 3 (by omega), h 4 (by omega)]
theorem pop_ad {p : Nat → Bool} {x : Nat} (hx : x < 5) (h : p x = false) : pop (fun t => p t || decide (t = x)) = pop p + 1 := by
  unfold pop
  rcases five hx with rfl | rfl | rfl | rfl | rfl
  · simp [h]; omega
  · simp [h]; omega
  · simp [h]; omega
  · simp [h]; omega
  · simp [h]
def po5 (a b c d e : Bool) : Nat := a.toNat + b.toNat + c.toNat + d.toNat + e.toNat
theorem tn_le (b : Bool) : b.toNat ≤ 1 := by cases b <;> decide
theorem tn_1 {b : Bool} (h : b = true) : b.toNat = 1 := by rw [h]; rfl
theorem tn_0 {b : Bool} (h : b = false) : b.toNat = 0 := by rw [h]; rfl
theorem tn_t {b : Bool} (h : b.toNat = 1) : b = true := by
  cases b
  · cases h
  · rfl
theorem pop_sub {p : Nat → Bool} {C : Nat} (hC : C ≤ 5) (h : ∀ t, t < 5 → p t = true → t < C) : pop p ≤ C ∧ (pop p = C → ∀ t, t < C → p t = true) := by
  have z : ∀ t, t < 5 → C ≤ t → (p t).toNat = 0 := fun t ht hc => by
    cases e : p t
    · rfl
    · have := h t ht e
      omega
  have b0 := tn_le (p 0)
  have b1 := tn_le (p 1)
  have b2 := tn_le (p 2)
  have b3 := tn_le (p 3)
  have b4 := tn_le (p 4)
  have z0 := z 0 (by omega)
  have z1 := z 1 (by omega)
  have z2 := z 2 (by omega)
  have z3 := z 3 (by omega)
  have z4 := z 4 (by omega)
  unfold pop
  refine ⟨by omega, fun e t ht => tn_t ?_⟩
  rcases five (show t < 5 by omega) with rfl | rfl | rfl | rfl | rfl <;> omega
theorem pop_full {p : Nat → Bool} {C : Nat} (hC : C ≤ 5) (h : ∀ t, t < 5 → p t = decide (t < C)) : pop p = C := by
  rw [pop_congr h]
  have key : ∀ C, C ≤ 5 → pop (fun t => decide (t < C)) = C := by decide +kernel
  exact key C hC
theorem pop_union {p q : Nat → Bool} (h : ∀ t, t < 5 → p t = true → q t = false) : pop (fun t => p t || q t) = pop p + pop q := by
  have key : ∀ a b c d e a' b' c' d' e' : Bool, (a = true → a' = false) → (b = true → b' = false) → (c = true → c' = false) → (d = true → d' = false) → (e = true → e' = false) → po5 (a || a') (b || b') (c || c') (d || d') (e || e') = po5 a b c d e + po5 a' b' c' d' e' := by decide +kernel
  exact key _ _ _ _ _ _ _ _ _ _ (h 0 (by omega)) (h 1 (by omega)) (h 2 (by omega)) (h 3 (by omega)) (h 4 (by omega))
theorem pop_2 {p : Nat → Bool} {x y : Nat} (hx : x < 5) (hy : y < 5) (hn : x ≠ y) (h1 : p x = true) (h2 : p y = true) : 2 ≤ pop p := by
  have t1 := tn_1 h1
  have t2 := tn_1 h2
  have b0 := tn_le (p 0)
  have b1 := tn_le (p 1)
  have b2 := tn_le (p 2)
  have b3 := tn_le (p 3)
  have b4 := tn_le (p 4)
  unfold pop
  rcases five hx with rfl | rfl | rfl | rfl | rfl <;> rcases five hy with rfl | rfl | rfl | rfl | rfl <;> omega
theorem nF_full (c : Nat → Nat) : ∀ n, nF c n = n ↔ ∀ j, j < n → c j ≠ 5
  | 0 => ⟨fun _ j h => by omega, fun _ => rfl⟩
  | n + 1 => by
    have h1 := nF_le c n
    unfold nF
    constructor
    · intro e j hj
      split at e
      · omega
      · next e2 =>
        by_cases q : j = n
        · rw [q]; exact e2
        · exact (nF_full c n).mp (by omega) j (by omega)
    · intro h
      rw [if_neg (h n (by omega)), (nF_full c n).mpr (fun j hj => h j (by omega))]
theorem any_pop {v : Nat → Nat} : ∀ k, k ≤ 5 → (∀ i j, i < k → j < k → v i = v j → v i ≠ 5 → i = j) → (∀ i, i < k → v i ≤ 5) → pop (fun s => anyB (fun j => decide (v j = s)) k) = nF v k
  | 0, _, _, _ => rfl
  | k + 1, hk, hi, h5 => by
    have ih := any_pop (v := v) k (by omega) (fun i j a b c d => hi i j (by omega) (by omega) c d) (fun i a => h5 i (by omega))
    have hv := h5 k (by omega)
    unfold nF
    by_cases e : v k = 5
    · rw [if_pos e, ← ih]
      refine Eq.trans (pop_congr fun s hs => ?_) (Nat.add_zero _).symm
      rw [anyB_s, decide_eq_false (by omega), Bool.or_false]
    · rw [if_neg e, ← ih, ← pop_ad (p := fun s => anyB (fun j => decide (v j = s)) k) (x := v k) (by omega)]
      · refine pop_congr fun s hs => ?_
        rw [anyB_s]
        congr 1
        exact decide_eq_decide.mpr ⟨Eq.symm, Eq.symm⟩
      · cases q : anyB (fun j => decide (v j = v k)) k
        · rfl
        · obtain ⟨j, h1, h2⟩ := (anyB_iff _ _).mp q
          have := hi j k (by omega) (by omega) (of_decide_eq_true h2) (by rw [of_decide_eq_true h2]; exact e)
          omega
theorem fl_iff {S : GS} {r : Nat} : S.fl r = true ↔ ∀ j, j < S.C → S.c (r * 5 + j) ≠ 5 := by
  unfold GS.fl
  constructor
  · intro h j hj e
    have : anyB (fun j => decide (S.c (r * 5 + j) = 5)) S.C = true := (anyB_iff _ _).mpr ⟨j, hj, decide_eq_true e⟩
    rw [this] at h
    cases h
  · intro h
    cases q : anyB (fun j => decide (S.c (r * 5 + j) = 5)) S.C
    · rfl
    · obtain ⟨j, h1, h2⟩ := (anyB_iff _ _).mp q
      exact absurd (of_decide_eq_true h2) (h j h1)
theorem fl_rU {S : GS} (hg : GI S) {r : Nat} (hr : r < 5) : S.fl r = true ↔ ∀ s, s < 5 → rU S.c r s = decide (s < S.C) := by
  have hC := hg.C5
  have e := any_pop (v := fun j => S.c (r * 5 + j)) S.C hC (fun i j a b c d => hg.row r i j hr (by omega) (by omega) c d) (fun i _ => hg.c5 _)
  have e2 : pop (rU S.c r) = nF (fun j => S.c (r * 5 + j)) S.C := by
    rw [← e]
    exact pop_congr fun s hs => (rU_any hg hr hs).symm
  have sub : ∀ t, t < 5 → rU S.c r t = true → t < S.C := by
    intro t ht h
    obtain ⟨j, h1, h2⟩ := (rU_iff _ _ _).mp h
    have := hg.sy (r * 5 + j) (by omega)
    omega
  rw [fl_iff, ← nF_full (fun j => S.c (r * 5 + j)) S.C, ← e2]
  constructor
  · intro h s hs
    have := (pop_sub hC sub).2 h
    by_cases q : s < S.C
    · rw [this s q, decide_eq_true q]
    · rw [decide_eq_false q]
      cases z : rU S.c r s
      · rfl
      · exact absurd (sub s hs z) q
  · intro h
    exact pop_full hC h
/-- from a column to the one in which row a has what row b has here -/
def GS.pi (S : GS) (a b c : Nat) : Nat := low (fun x => decide (S.c (a * 5 + x) = S.c (b * 5 + c)))
theorem pi_sp {S : GS} (hg : GI S) {a b c : Nat} (ha : a < 5) (hb : b < 5) (fa : S.fl a = true) (fb : S.fl b = true) (hc : c < S.C) : S.pi a b c < S.C ∧ S.c (a * 5 + S.pi a b c) = S.c (b * 5 + c) ∧ (∀ i, i < S.pi a b c → ¬ S.c (a * 5 + i) = S.c (b * 5 + c)) := by
  have hC := hg.C5
  have hs := fl_iff.mp fb c hc
  have hs2 := hg.sy _ hs
  have h1 := (fl_rU hg ha).mp fa (S.c (b * 5 + c)) (by omega)
  rw [decide_eq_true hs2] at h1
  obtain ⟨x, x1, x2⟩ := (rU_iff _ _ _).mp h1
  have ne : low (fun x => decide (S.c (a * 5 + x) = S.c (b * 5 + c))) ≠ 5 := fun z => by
    have := low_5.mp z x x1
    rw [decide_eq_true x2] at this
    cases this
  obtain ⟨l1, l2, l3⟩ := low_sp ne
  refine ⟨?_, of_decide_eq_true l2, fun i hi => of_decide_eq_false (l3 i hi)⟩
  apply Classical.byContradiction
  intro z
  have l2' : S.c (a * 5 + S.pi a b c) = S.c (b * 5 + c) := of_decide_eq_true l2
  rw [hg.out a (S.pi a b c) ha l1 (Or.inr (by omega))] at l2'
  omega
theorem pi_inj {S : GS} (hg : GI S) {a b c c' : Nat} (ha : a < 5) (hb : b < 5) (fa : S.fl a = true) (fb : S.fl b = true) (hc : c < S.C) (hc' : c' < S.C) (e : S.pi a b c = S.pi a b c') : c = c' := by
  have hC := hg.C5
  have h1 := (pi_sp hg ha hb fa fb hc).2.1
  have h2 := (pi_sp hg ha hb fa fb hc').2.1
  rw [e, h2] at h1
  exact hg.row b c c' hb (by omega) (by omega) h1.symm (fl_iff.mp fb c hc)
theorem pi_ne {S : GS} (hg : GI S) {a b c : Nat} (ha : a < 5) (hb : b < 5) (hn : a ≠ b) (fa : S.fl a = true) (fb : S.fl b = true) (hc : c < S.C) : S.pi a b c ≠ c := by
  have hC := hg.C5
  intro e
  have h1 := (pi_sp hg ha hb fa fb hc).2.1
  rw [e] at h1
  exact hn (hg.col a b c ha hb (by omega) h1 (fl_iff.mp fa c hc))
def itn (π : Nat → Nat) (c : Nat) : Nat → Nat
  | 0 => c
  | n + 1 => π (itn π c n)
def OB (π : Nat → Nat) (c k x : Nat) : Bool := anyB (fun i => decide (itn π c i = x)) k
theorem OB_iff {π : Nat → Nat} {c k x : Nat} : OB π c k x = true ↔ ∃ i, i < k ∧ itn π c i = x := by
  unfold OB
  rw [anyB_iff]
  constructor
  · rintro ⟨i, h1, h2⟩
    exact ⟨i, h1, of_decide_eq_true h2⟩
  · rintro ⟨i, h1, h2⟩
    exact ⟨i, h1, decide_eq_true h2⟩
theorem itn_add (π : Nat → Nat) (c i : Nat) : ∀ j, itn π c (i + j) = itn π (itn π c i) j
  | 0 => rfl
  | j + 1 => by
    show π (itn π c (i + j)) = π (itn π (itn π c i) j)
    rw [itn_add π c i j]
theorem OB_step (π : Nat → Nat) (c k : Nat) : OB π c (k + 1) = fun x => OB π c k x || decide (x = itn π c k) := by
  funext x
  unfold OB
  rw [anyB_s]
  congr 1
  exact decide_eq_decide.mpr ⟨Eq.symm, Eq.symm⟩
theorem OB_stop {π : Nat → Nat} {c k : Nat} (h : OB π c k (itn π c k) = true) : ∀ n, OB π c k (itn π c n) = true := by
  obtain ⟨i, hi, e⟩ := OB_iff.mp h
  intro n
  induction n with
  | zero => exact OB_iff.mpr ⟨0, by omega, rfl⟩
  | succ n ih =>
    obtain ⟨j, hj, e2⟩ := OB_iff.mp ih
    by_cases q : j + 1 = k
    · refine OB_iff.mpr ⟨i, hi, ?_⟩
      show itn π c i = π (itn π c n)
      rw [e, ← e2, ← q]
      rfl
    · refine OB_iff.mpr ⟨j + 1, by omega, ?_⟩
      show π (itn π c j) = π (itn π c n)
      rw [e2]
section
variable {π : Nat → Nat} {C : Nat}
theorem itn_lt (hπ : ∀ c, c < C → π c < C) {c : Nat} (hc : c < C) : ∀ n, itn π c n < C
  | 0 => hc
  | n + 1 => hπ _ (itn_lt hπ hc n)
theorem OB_sub (hπ : ∀ c, c < C → π c < C) {c : Nat} (hc : c < C) (k : Nat) : ∀ t, t < 5 → OB π c k t = true → t < C := by
  intro t _ h
  obtain ⟨i, _, e⟩ := OB_iff.mp h
  rw [← e]
  exact itn_lt hπ hc i
theorem OB_pop (hπ : ∀ c, c < C → π c < C) (hC : C ≤ 5) {c : Nat} (hc : c < C) : ∀ k, (∀ i, i < k → OB π c i (itn π c i) = false) → pop (OB π c k) = k
  | 0, _ => rfl
  | k + 1, h => by
    rw [OB_step, pop_ad (by have := itn_lt hπ hc k; omega) (h k (by omega)), OB_pop hπ hC hc k (fun i hi => h i (by omega))]
/-- it comes again within C steps -/
theorem OB_end (hπ : ∀ c, c < C → π c < C) (hC : C ≤ 5) {c : Nat} (hc : c < C) : OB π c C (itn π c C) = true := by
  apply Classical.byContradiction
  intro h
  have all : ∀ i, i < C + 1 → OB π c i (itn π c i) = false := by
    intro i hi
    cases q : OB π c i (itn π c i)
    · rfl
    · refine absurd ?_ h
      obtain ⟨j, j1, j2⟩ := OB_iff.mp (OB_stop q C)
      exact OB_iff.mpr ⟨j, by omega, j2⟩
  have h1 := OB_pop hπ hC hc (C + 1) all
  have h2 := (pop_sub hC (OB_sub hπ hc (C + 1))).1
  omega
theorem OB_all (hπ : ∀ c, c < C → π c < C) (hC : C ≤ 5) {c : Nat} (hc : c < C) (n : Nat) : OB π c C (itn π c n) = true := OB_stop (OB_end hπ hC hc) n
/-- where it stops, it has all -/
theorem OB_eq (hπ : ∀ c, c < C → π c < C) (hC : C ≤ 5) {c k : Nat} (hc : c < C) (h : OB π c k (itn π c k) = true) : OB π c k = OB π c C := by
  funext x
  apply b_ext2
  constructor
  · intro z
    obtain ⟨i, i1, i2⟩ := OB_iff.mp z
    rw [← i2]
    exact OB_all hπ hC hc i
  · intro z
    obtain ⟨i, i1, i2⟩ := OB_iff.mp z
    rw [← i2]
    exact OB_stop h i
theorem itn_inj (hπ : ∀ c, c < C → π c < C) (hi : ∀ c c', c < C → c' < C → π c = π c' → c = c') {c : Nat} (hc : c < C) : ∀ i j, itn π c i = itn π c (i + j) → c = itn π c j
  | 0, j, e => by rw [Nat.zero_add] at e; exact e
  | i + 1, j, e => by
    rw [show i + 1 + j = (i + j) + 1 by omega] at e
    exact itn_inj hπ hi hc i j (hi _ _ (itn_lt hπ hc _) (itn_lt hπ hc _) e)
/-- it comes back to its beginning -/
theorem itn_back (hπ : ∀ c, c < C → π c < C) (hC : C ≤ 5) (hi : ∀ c c', c < C → c' < C → π c = π c' → c = c') {c : Nat} (hc : c < C) : ∃ m, 1 ≤ m ∧ c = itn π c m := by
  obtain ⟨i, i1, i2⟩ := OB_iff.mp (OB_end hπ hC hc)
  obtain ⟨m, hm⟩ := Nat.exists_eq_add_of_le (show i ≤ C by omega)
  rw [show itn π c C = itn π c (i + m) by rw [← hm]] at i2
  exact ⟨m, by omega, itn_inj hπ hi hc i m i2⟩
theorem itn_mul {c m : Nat} (h : c = itn π c m) : ∀ k, c = itn π c (k * m)
  | 0 => by rw [Nat.zero_mul]; rfl
  | k + 1 => by
    rw [Nat.add_mul, Nat.one_mul, itn_add, ← itn_mul h k]
    exact h
/-- cycles are the same or apart -/
theorem OB_same (hπ : ∀ c, c < C → π c < C) (hC : C ≤ 5) (hi : ∀ c c', c < C → c' < C → π c = π c' → c = c') {c x : Nat} (hc : c < C) (h : OB π c C x = true) : OB π x C = OB π c C := by
  obtain ⟨i, i1, i2⟩ := OB_iff.mp h
  have hx : x < C := by rw [← i2]; exact itn_lt hπ hc i
  obtain ⟨m, m1, m2⟩ := itn_back hπ hC hi hc
  have back : c = itn π x (i * m - i) := by
    rw [← i2, ← itn_add, show i + (i * m - i) = i * m by have := Nat.mul_le_mul_left i m1; omega]
    exact itn_mul m2 i
  funext y
  apply b_ext2
  constructor
  · intro z
    obtain ⟨j, j1, j2⟩ := OB_iff.mp z
    rw [← j2, ← i2, ← itn_add]
    exact OB_all hπ hC hc _
  · intro z
    obtain ⟨j, j1, j2⟩ := OB_iff.mp z
    rw [← j2, back, ← itn_add]
    exact OB_all hπ hC hx _
/-- what leads into a cycle lies in it -/
theorem OB_pre (hπ : ∀ c, c < C → π c < C) (hC : C ≤ 5) (hi : ∀ c c', c < C → c' < C → π c = π c' → c = c') {c y : Nat} (hc : c < C) (hy : y < C) : OB π c C (π y) = OB π c C y := by
  apply b_ext2
  constructor
  · intro z
    have e := OB_same hπ hC hi hc z
    obtain ⟨m, m1, m2⟩ := itn_back hπ hC hi hy
    have : y = itn π (π y) (m - 1) := by
      have := itn_add π y 1 (m - 1)
      rw [show 1 + (m - 1) = m by omega, ← m2] at this
      exact this
    rw [← e, this]
    have := OB_all hπ hC (hπ y hy) (m - 1)
    rw [← show y = itn π (π y) (m - 1) from by assumption] at this ⊢
    exact this
  · intro z
    obtain ⟨i, i1, i2⟩ := OB_iff.mp z
    rw [← i2]
    exact OB_all hπ hC hc (i + 1)
end
/-- the columns of a cycle -/
def GS.cyc (S : GS) (a b c : Nat) : Nat → Bool := OB (S.pi a b) c S.C
