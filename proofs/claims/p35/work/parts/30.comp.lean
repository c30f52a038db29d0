/-! completions: how many there are does not hang on the cell that is looked at first -/
section
variable (R C : Nat) (b : Nat → Nat → Bool)
def inR (k : Nat) : Bool := decide (k / 5 < R) && decide (k % 5 < C)
def cdk (c : Nat → Nat) (k s : Nat) : Bool := decide (s < C) && decide (c k = 5) && !rU c (k / 5) s && !cU c (k % 5) s && !b k s
/-- the ways to fill the empty cells from i on -/
def cp : Nat → Nat → (Nat → Nat) → Nat
  | 0, _, _ => 1
  | n + 1, i, c => if inR R C i = true ∧ c i = 5 then sm (fun s => if cdk C b c i s = true then cp n (i + 1) (nu c i s) else 0) 0 C else cp n (i + 1) c
end
theorem sm_add (p q : Nat → Nat) : ∀ k i, sm (fun s => p s + q s) i k = sm p i k + sm q i k
  | 0, _ => rfl
  | k + 1, i => by
    unfold sm
    rw [sm_add p q k (i + 1)]
    omega
theorem sm_0 : ∀ k i, sm (fun _ => 0) i k = 0
  | 0, _ => rfl
  | k + 1, i => by
    unfold sm
    rw [sm_0 k (i + 1)]
theorem sm_swap (F : Nat → Nat → Nat) (m j : Nat) : ∀ n i, sm (fun s => sm (fun t => F s t) j m) i n = sm (fun t => sm (fun s => F s t) i n) j m
  | 0, i => by
    show 0 = sm (fun _ => 0) j m
    rw [sm_0]
  | n + 1, i => by
    show sm (fun t => F i t) j m + sm (fun s => sm (fun t => F s t) j m) (i + 1) n = sm (fun t => F i t + sm (fun s => F s t) (i + 1) n) j m
    rw [sm_add, sm_swap F m j n (i + 1)]
theorem nu_comm (c : Nat → Nat) {i q : Nat} (h : i ≠ q) (s t : Nat) : nu (nu c i s) q t = nu (nu c q t) i s := by
  funext k
  unfold nu
  by_cases e : k = q
  · rw [if_pos e, if_neg (by omega), if_pos e]
  · rw [if_neg e]
    by_cases e2 : k = i
    · rw [if_pos e2, if_pos e2]
    · rw [if_neg e2, if_neg e2, if_neg e]
theorem k_split (k : Nat) : k / 5 * 5 + k % 5 = k := by omega
theorem cdk_lt {C : Nat} {b : Nat → Nat → Bool} {c : Nat → Nat} {k s : Nat} (h : cdk C b c k s = true) : s < C := by
  unfold cdk at h
  simp only [Bool.and_eq_true, decide_eq_true_eq] at h
  exact h.1.1.1.1
theorem cdk_nu {C : Nat} (hC : C ≤ 5) {b : Nat → Nat → Bool} {c : Nat → Nat} {i q s t : Nat} (hi : i < 25) (hq : q < 25) (hn : i ≠ q) (he : c i = 5) (ht : t < C) : cdk C b (nu c i s) q t = (cdk C b c q t && !(decide (q / 5 = i / 5) && decide (t = s)) && !(decide (q % 5 = i % 5) && decide (t = s))) := by
  have e := k_split i
  have hr := fun r' => rU_put (c := c) (r := i / 5) (j := i % 5) (s := s) (t := t) (by omega) (by rw [e]; exact he) (by omega) r'
  have hc := fun j' => cU_put (c := c) (r := i / 5) (j := i % 5) (s := s) (t := t) (by omega) (by omega) (by rw [e]; exact he) (by omega) j'
  rw [e] at hr hc
  unfold cdk
  rw [nu_n (fun h => hn h.symm), hr, hc]
  by_cases e1 : q / 5 = i / 5
  · rw [if_pos e1, e1]
    by_cases e2 : q % 5 = i % 5
    · omega
    · rw [if_neg e2]
      simp only [e2, decide_true, decide_false, Bool.true_and, Bool.false_and, Bool.not_false, Bool.and_true, Bool.not_or]
      cases decide (t = s) <;> simp
  · rw [if_neg e1]
    by_cases e2 : q % 5 = i % 5
    · rw [if_pos e2, e2]
      simp only [e1, decide_true, decide_false, Bool.true_and, Bool.false_and, Bool.not_false, Bool.and_true, Bool.not_or]
      cases decide (t = s) <;> simp
    · rw [if_neg e2]
      simp only [e1, e2, decide_false, Bool.false_and, Bool.not_false, Bool.and_true]
theorem cp_ex {R C : Nat} (hC : C ≤ 5) {b : Nat → Nat → Bool} : ∀ (n i : Nat) (c : Nat → Nat) (q : Nat), i + n = 25 → i ≤ q → q < 25 → inR R C q = true → c q = 5 → cp R C b n i c = sm (fun t => if cdk C b c q t = true then cp R C b n i (nu c q t) else 0) 0 C
  | 0, i, c, q, h, h1, h2, h3, h4 => by omega
  | n + 1, i, c, q, h, h1, h2, h3, h4 => by
    have keep : ∀ t, i ≠ q → (nu c q t) i = c i := fun t hn => nu_n hn
    by_cases e : i = q
    · subst e
      conv => lhs; unfold cp
      rw [if_pos ⟨h3, h4⟩]
      refine sm_congr C 0 fun t _ ht => ?_
      by_cases hc : cdk C b c i t = true
      · rw [if_pos hc, if_pos hc]
        conv => rhs; unfold cp
        rw [if_neg]
        rw [nu_s]
        omega
      · rw [if_neg hc, if_neg hc]
    · by_cases o : inR R C i = true ∧ c i = 5
      · have l1 : cp R C b (n + 1) i c = sm (fun s => sm (fun t => if cdk C b c i s = true ∧ cdk C b (nu c i s) q t = true then cp R C b n (i + 1) (nu (nu c i s) q t) else 0) 0 C) 0 C := by
          conv => lhs; unfold cp
          rw [if_pos o]
          refine sm_congr C 0 fun s _ hs => ?_
          by_cases hc : cdk C b c i s = true
          · rw [if_pos hc, cp_ex hC n (i + 1) (nu c i s) q (by omega) (by omega) h2 h3 (by rw [nu_n (fun z => e z.symm)]; exact h4)]
            refine sm_congr C 0 fun t _ _ => ?_
            simp only [hc, true_and]
          · rw [if_neg hc]
            have : (fun t => if cdk C b c i s = true ∧ cdk C b (nu c i s) q t = true then cp R C b n (i + 1) (nu (nu c i s) q t) else 0) = fun _ => 0 := by
              funext t
              rw [if_neg (fun z => hc z.1)]
            rw [this, sm_0]
        rw [l1, sm_swap]
        refine sm_congr C 0 fun t _ ht => ?_
        by_cases hc : cdk C b c q t = true
        · rw [if_pos hc]
          conv => rhs; unfold cp
          rw [keep t e, if_pos o]
          refine sm_congr C 0 fun s _ hs => ?_
          have x1 := cdk_nu hC (b := b) (s := s) (t := t) (by omega : i < 25) h2 e o.2 (by omega)
          have x2 := cdk_nu hC (b := b) (s := t) (t := s) h2 (by omega : i < 25) (fun z => e z.symm) h4 (by omega)
          rw [x1, x2, hc, nu_comm c e s t]
          have a1 : decide (q / 5 = i / 5) = decide (i / 5 = q / 5) := decide_eq_decide.mpr ⟨Eq.symm, Eq.symm⟩
          have a2 : decide (q % 5 = i % 5) = decide (i % 5 = q % 5) := decide_eq_decide.mpr ⟨Eq.symm, Eq.symm⟩
          have a3 : decide (t = s) = decide (s = t) := decide_eq_decide.mpr ⟨Eq.symm, Eq.symm⟩
          rw [a1, a2, a3]
          cases cdk C b c i s <;> simp
        · rw [if_neg hc]
          refine Eq.trans (sm_congr (q := fun _ => 0) C 0 fun s _ hs => ?_) (sm_0 C 0)
          rw [if_neg]
          rintro ⟨z1, z2⟩
          rw [cdk_nu hC (b := b) (s := s) (t := t) (by omega : i < 25) h2 e o.2 (by omega)] at z2
          simp only [Bool.and_eq_true] at z2
          exact hc z2.1.1
      · conv => lhs; unfold cp
        rw [if_neg o, cp_ex hC n (i + 1) c q (by omega) (by omega) h2 h3 h4]
        refine sm_congr C 0 fun t _ _ => ?_
        by_cases hc : cdk C b c q t = true
        · rw [if_pos hc, if_pos hc]
          conv => rhs; unfold cp
          rw [keep t e, if_neg o]
        · rw [if_neg hc, if_neg hc]
/-- cells that are filled, or lie outside, are passed over -/
theorem cp_skip {R C : Nat} {b : Nat → Nat → Bool} {c : Nat → Nat} : ∀ (m n i : Nat), (∀ k, i ≤ k → k < i + m → ¬ (inR R C k = true ∧ c k = 5)) → cp R C b (n + m) i c = cp R C b n (i + m) c
  | 0, _, _, _ => rfl
  | m + 1, n, i, h => by
    show cp R C b (n + m + 1) i c = _
    conv => lhs; unfold cp
    rw [if_neg (h i (Nat.le_refl _) (by omega)), cp_skip m n (i + 1) (fun k h1 h2 => h k (by omega) (by omega))]
    rw [show i + 1 + m = i + (m + 1) by omega]
