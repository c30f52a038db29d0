/-! completions, cell by cell: how many, the first, what a cell has in them -/
theorem fcp_skip {R C : Nat} {b : Nat → Nat → Bool} {c : Nat → Nat} : ∀ (m n i : Nat), (∀ k, i ≤ k → k < i + m → ¬ (inR R C k = true ∧ c k = 5)) → fcp R C b (n + m) i c = fcp R C b n (i + m) c
  | 0, n, i, h => rfl
  | m + 1, n, i, h => by
    have e : fcp R C b (n + (m + 1)) i c = fcp R C b (n + m) (i + 1) c := by
      show fcp R C b ((n + m) + 1) i c = _
      conv => lhs; unfold fcp
      rw [if_neg (h i (by omega) (by omega))]
    rw [e, fcp_skip m n (i + 1) (fun k a b => h k (by omega) (by omega))]
    congr 1
    omega
/-- the first completion -/
def GS.fcO (S : GS) : Option (Nat → Nat) := fcp S.R S.C S.b 25 0 S.c
theorem fc_done {S : GS} (h : ∀ k, k < 25 → ¬ (inR S.R S.C k = true ∧ S.c k = 5)) : S.fcO = some S.c := by
  have := fcp_skip (R := S.R) (C := S.C) (b := S.b) (c := S.c) 25 0 0 (fun k _ hk => h k (by omega))
  unfold GS.fcO
  rw [show (25 : Nat) = 0 + 25 from rfl, this]
  rfl
theorem fc_split {S : GS} {r j : Nat} (hr : r < S.R) (hj : j < S.C) (hC : S.C ≤ 5) (hR : S.R ≤ 5) (he : S.c (r * 5 + j) = 5) (hb : ∀ k, k < r * 5 + j → ¬ (inR S.R S.C k = true ∧ S.c k = 5)) : S.fcO = fsO (fun s => if S.cd r j s = true then (S.put r j s).fcO else none) 0 S.C := by
  have hk : r * 5 + j < 25 := by omega
  obtain ⟨n, hn⟩ : ∃ n, 25 = (n + 1) + (r * 5 + j) := ⟨24 - (r * 5 + j), by omega⟩
  have e1 := fcp_skip (R := S.R) (C := S.C) (b := S.b) (c := S.c) (r * 5 + j) (n + 1) 0 (fun k _ hk => hb k (by omega))
  have e2 : ∀ s, s < 5 → (S.put r j s).fcO = fcp S.R S.C S.b n (r * 5 + j + 1) (nu S.c (r * 5 + j) s) := by
    intro s hs
    have := fcp_skip (R := S.R) (C := S.C) (b := S.b) (c := nu S.c (r * 5 + j) s) (r * 5 + j + 1) n 0 (fun k _ hk => by
      by_cases z : k = r * 5 + j
      · rw [z, nu_s]
        exact fun w => by omega
      · rw [nu_n z]
        exact hb k (by omega))
    show fcp S.R S.C S.b 25 0 (nu S.c (r * 5 + j) s) = _
    rw [hn, show n + 1 + (r * 5 + j) = n + (r * 5 + j + 1) by omega, this, Nat.zero_add]
  unfold GS.fcO
  rw [hn, e1, Nat.zero_add]
  conv => lhs; unfold fcp
  rw [if_pos ⟨by rw [inR_at (by omega), decide_eq_true hr, decide_eq_true hj]; rfl, he⟩]
  have : ∀ k i, i + k = S.C → fsO (fun s => if cdk S.C S.b S.c (r * 5 + j) s = true then fcp S.R S.C S.b n (r * 5 + j + 1) (nu S.c (r * 5 + j) s) else none) i k = fsO (fun s => if S.cd r j s = true then fcp S.R S.C S.b (n + 1 + (r * 5 + j)) 0 (S.put r j s).c else none) i k := by
    intro k
    induction k with
    | zero => intro i _; rfl
    | succ k ih =>
      intro i h
      have ei := e2 i (by omega)
      unfold GS.fcO at ei
      rw [hn] at ei
      have hd : (if cdk S.C S.b S.c (r * 5 + j) i = true then fcp S.R S.C S.b n (r * 5 + j + 1) (nu S.c (r * 5 + j) i) else none) = (if S.cd r j i = true then fcp S.R S.C S.b (n + 1 + (r * 5 + j)) 0 (S.put r j i).c else none) := by
        rw [cdk_cd (by omega)]
        by_cases z : S.cd r j i = true
        · rw [if_pos z, if_pos z]
          exact ei.symm
        · rw [if_neg z, if_neg z]
      unfold fsO
      rw [hd, ih (i + 1) (by omega)]
  exact this S.C 0 (Nat.zero_add _)
theorem fc_none {S : GS} : S.fcO = none ↔ S.cn = 0 := fcp_cp 25 0 S.c
theorem sm_ne0 {p : Nat → Nat} {k i : Nat} : (sm p i k ≠ 0) ↔ ∃ j, i ≤ j ∧ j < i + k ∧ p j ≠ 0 := by
  have := sm_pos (p := p) k i
  constructor
  · intro h
    obtain ⟨j, a, b, c⟩ := this.mp (by omega)
    exact ⟨j, a, b, by omega⟩
  · rintro ⟨j, a, b, c⟩
    have := this.mpr ⟨j, a, b, by omega⟩
    omega
theorem cd_lt2 {S : GS} {r j s : Nat} (h : S.cd r j s = true) : s < S.C := by
  unfold GS.cd at h
  simp only [Bool.and_eq_true, decide_eq_true_eq] at h
  exact h.1.1.1.1
theorem put_comm {S : GS} {r j s r' j' s' : Nat} (h : r * 5 + j ≠ r' * 5 + j') : (S.put r j s).put r' j' s' = (S.put r' j' s').put r j s := by
  show GS.sc S (nu (nu S.c (r * 5 + j) s) (r' * 5 + j') s') = GS.sc S (nu (nu S.c (r' * 5 + j') s') (r * 5 + j) s)
  rw [nu_comm _ h]
/-- what is possible in a cell, split at an empty cell -/
theorem pb_split {S : GS} (hg : GI S) {r0 j0 r j s : Nat} (hr0 : r0 < S.R) (hj0 : j0 < S.C) (he : S.c (r0 * 5 + j0) = 5) (hr : r < S.R) (hj : j < S.C) : S.pb r j s = anyB (fun t => S.cd r0 j0 t && (S.put r0 j0 t).pb r j s) S.C := by
  have hC := hg.C5
  have hR := hg.RC
  refine b_ext2 ?_
  rw [anyB_iff]
  by_cases e : r * 5 + j = r0 * 5 + j0
  · have er : r = r0 := by omega
    have ej : j = j0 := by omega
    subst er ej
    have q : ∀ t, t < 5 → (S.put r j t).pb r j s = (decide (s = t) && !decide ((S.put r j t).cn = 0)) := by
      intro t ht
      have c1 : (S.put r j t).c (r * 5 + j) = t := nu_s _ _ _
      unfold GS.pb
      rw [c1, if_neg (by omega)]
    have l : S.pb r j s = (S.cd r j s && !decide ((S.put r j s).cn = 0)) := by unfold GS.pb; rw [if_pos he]; rfl
    rw [l]
    constructor
    · intro h
      have hs := cd_lt2 ((Bool.and_eq_true _ _ ▸ h).1)
      refine ⟨s, hs, ?_⟩
      rw [q s (by omega), decide_eq_true rfl, Bool.true_and]
      exact h
    · rintro ⟨t, ht, h⟩
      rw [q t (by omega)] at h
      simp only [Bool.and_eq_true, decide_eq_true_eq] at h
      obtain ⟨h1, rfl, h2⟩ := h
      rw [Bool.and_eq_true]
      exact ⟨h1, h2⟩
  · by_cases f : S.c (r * 5 + j) = 5
    · have l : S.pb r j s = S.ps r j s := by unfold GS.pb; rw [if_pos f]
      have q : ∀ t, (S.put r0 j0 t).pb r j s = (S.put r0 j0 t).ps r j s := by
        intro t
        have c1 : (S.put r0 j0 t).c (r * 5 + j) = 5 := (nu_n e).trans f
        unfold GS.pb
        rw [if_pos c1]
      have sw : ∀ t, t < S.C → (S.cd r0 j0 t = true ∧ (S.put r0 j0 t).cd r j s = true ↔ S.cd r j s = true ∧ (S.put r j s).cd r0 j0 t = true) := by
        intro t ht
        by_cases hs : s < S.C
        · have a1 := cdk_nu (C := S.C) hC (b := S.b) (c := S.c) (i := r0 * 5 + j0) (q := r * 5 + j) (s := t) (t := s) (by omega) (by omega) (fun z => e z.symm) he hs
          have a2 := cdk_nu (C := S.C) hC (b := S.b) (c := S.c) (i := r * 5 + j) (q := r0 * 5 + j0) (s := s) (t := t) (by omega) (by omega) e f ht
          have b1 : (S.put r0 j0 t).cd r j s = cdk S.C S.b (nu S.c (r0 * 5 + j0) t) (r * 5 + j) s := (cdk_cd (T := S.put r0 j0 t) (by omega)).symm
          have b2 : (S.put r j s).cd r0 j0 t = cdk S.C S.b (nu S.c (r * 5 + j) s) (r0 * 5 + j0) t := (cdk_cd (T := S.put r j s) (by omega)).symm
          rw [b1, b2, a1, a2, cdk_cd (by omega), cdk_cd (by omega)]
          rw [show (r * 5 + j) / 5 = r by omega, show (r0 * 5 + j0) / 5 = r0 by omega, show (r * 5 + j) % 5 = j by omega, show (r0 * 5 + j0) % 5 = j0 by omega]
          have c1 : decide (r = r0) = decide (r0 = r) := by simp only [eq_comm]
          have c2 : decide (j = j0) = decide (j0 = j) := by simp only [eq_comm]
          have c3 : decide (s = t) = decide (t = s) := by simp only [eq_comm]
          rw [c1, c2, c3]
          simp only [Bool.and_eq_true]
          constructor
          · rintro ⟨x1, ⟨x2, x3⟩, x4⟩
            exact ⟨x2, ⟨x1, x3⟩, x4⟩
          · rintro ⟨x1, ⟨x2, x3⟩, x4⟩
            exact ⟨x2, ⟨x1, x3⟩, x4⟩
        · constructor
          · rintro ⟨_, h⟩
            exact absurd (cd_lt2 h) hs
          · rintro ⟨h, _⟩
            exact absurd (cd_lt2 h) hs
      rw [l]
      unfold GS.ps
      rw [Bool.and_eq_true]
      constructor
      · rintro ⟨h1, h2⟩
        have h2' : (S.put r j s).cn ≠ 0 := by simpa using h2
        have he' : (S.put r j s).c (r0 * 5 + j0) = 5 := (nu_n (fun z => e z.symm)).trans he
        rw [cn_split (GI_put hg hr hj h1) (r := r0) (j := j0) hr0 hj0 he', sm_ne0] at h2'
        obtain ⟨t, _, t2, t3⟩ := h2'
        have ht : t < S.C := by rw [Nat.zero_add] at t2; exact t2
        have k1 : (S.put r j s).cd r0 j0 t = true := by
          by_cases z : (S.put r j s).cd r0 j0 t = true
          · exact z
          · exact absurd (if_neg z) t3
        have t3' := t3
        rw [if_pos k1, put_comm e] at t3'
        obtain ⟨w1, w2⟩ := (sw t ht).mpr ⟨h1, k1⟩
        refine ⟨t, ht, ?_⟩
        rw [Bool.and_eq_true]
        refine ⟨w1, (q t).trans ?_⟩
        unfold GS.ps
        rw [Bool.and_eq_true]
        exact ⟨w2, by simpa using t3'⟩
      · rintro ⟨t, ht, h⟩
        rw [Bool.and_eq_true] at h
        obtain ⟨h1, h2⟩ := h
        rw [q t] at h2
        unfold GS.ps at h2
        rw [Bool.and_eq_true] at h2
        obtain ⟨h3, h4⟩ := h2
        obtain ⟨w1, w2⟩ := (sw t ht).mp ⟨h1, h3⟩
        refine ⟨w1, ?_⟩
        have he' : (S.put r j s).c (r0 * 5 + j0) = 5 := (nu_n (fun z => e z.symm)).trans he
        have : (S.put r j s).cn ≠ 0 := by
          rw [cn_split (GI_put hg hr hj w1) (r := r0) (j := j0) hr0 hj0 he', sm_ne0]
          refine ⟨t, Nat.zero_le _, by rw [Nat.zero_add]; exact ht, ?_⟩
          rw [if_pos w2, put_comm e]
          simpa using h4
        simpa using this
    · have l : S.pb r j s = (decide (s = S.c (r * 5 + j)) && !decide (S.cn = 0)) := by unfold GS.pb; rw [if_neg f]
      have q : ∀ t, (S.put r0 j0 t).pb r j s = (decide (s = S.c (r * 5 + j)) && !decide ((S.put r0 j0 t).cn = 0)) := by
        intro t
        have c1 : (S.put r0 j0 t).c (r * 5 + j) = S.c (r * 5 + j) := nu_n e
        unfold GS.pb
        rw [c1, if_neg f]
      rw [l, Bool.and_eq_true]
      have cs := cn_split hg (r := r0) (j := j0) hr0 hj0 he
      constructor
      · rintro ⟨h1, h2⟩
        have h2' : S.cn ≠ 0 := by simpa using h2
        rw [cs, sm_ne0] at h2'
        obtain ⟨t, _, t2, t3⟩ := h2'
        have k1 : S.cd r0 j0 t = true := by
          by_cases z : S.cd r0 j0 t = true
          · exact z
          · exact absurd (if_neg z) t3
        rw [if_pos k1] at t3
        refine ⟨t, by rw [Nat.zero_add] at t2; exact t2, ?_⟩
        rw [q t, k1, h1, Bool.true_and, Bool.true_and]
        simpa using t3
      · rintro ⟨t, ht, h⟩
        rw [q t, Bool.and_eq_true, Bool.and_eq_true] at h
        obtain ⟨h1, h2, h3⟩ := h
        refine ⟨h2, ?_⟩
        have : S.cn ≠ 0 := by
          rw [cs, sm_ne0]
          refine ⟨t, Nat.zero_le _, by rw [Nat.zero_add]; exact ht, ?_⟩
          rw [if_pos h1]
          simpa using h3
        simpa using this
theorem pb_done {S : GS} {r j s : Nat} (h1 : S.cn = 1) (hn : S.c (r * 5 + j) ≠ 5) : S.pb r j s = decide (s = S.c (r * 5 + j)) := by
  unfold GS.pb
  rw [if_neg hn, h1]
  simp
