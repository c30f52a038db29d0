/-! the reference: copies, undo, snapshots, what is asked of a cycle; a cell emptied, two rows switched -/
section
variable {g : z_G} {d : Nat} {f : Nat → Option z_C} {q : Option Nat × Nat × Nat} {P : z_Res → Prop} {m : Nat} {I : Nat → Int32} {A : Nat → Nat → Int32} {S : GS}
def cpF (F T : Nat → Int32) (at_ into n : Nat) : Nat → Int32 := fun k => if into ≤ k ∧ k < into + n then F (at_ + (k - into)) else T k
def kpF (F N : Nat → Int32) (cn : Nat) : Nat → Int32 := if cn = 10 then cpF N (cpF F F 25 0 225) 0 225 25 else cpF N F 0 (25 * cn) 25
end
theorem GI_take {S : GS} (hg : GI S) {r j : Nat} : GI (S.take r j) := by
  have cc : (S.take r j).c = nu S.c (r * 5 + j) 5 := rfl
  have key : ∀ k, (S.take r j).c k ≠ 5 → (S.take r j).c k = S.c k := fun k hk => by
    rw [cc] at hk ⊢
    unfold nu at hk ⊢
    split at hk
    · exact absurd rfl hk
    · next e => rw [if_neg e]
  refine ⟨hg.R1, hg.RC, hg.C2, hg.C5, fun k => ?_, fun k hk => ?_, fun r' j' a1 a2 a3 => ?_, fun r' j' j'' a1 a2 a3 a4 a5 => ?_, fun r' r'' j' a1 a2 a3 a4 a5 => ?_⟩
  · rw [cc]; unfold nu
    split
    · omega
    · exact hg.c5 k
  · rw [key k hk]
    rw [key k hk] at hk
    exact hg.sy k hk
  · rw [cc]; unfold nu
    split
    · rfl
    · exact hg.out r' j' a1 a2 a3
  · have z2 : (S.take r j).c (r' * 5 + j'') ≠ 5 := by rw [← a4]; exact a5
    rw [key _ a5, key _ z2] at a4
    rw [key _ a5] at a5
    exact hg.row r' j' j'' a1 a2 a3 a4 a5
  · have z2 : (S.take r j).c (r'' * 5 + j') ≠ 5 := by rw [← a4]; exact a5
    rw [key _ a5, key _ z2] at a4
    rw [key _ a5] at a5
    exact hg.col r' r'' j' a1 a2 a3 a4 a5
/-- two rows switched -/
def GS.swc (S : GS) (a b : Nat) (Z : Nat → Bool) : GS := S.sc (exn S.c a b Z S.C)
theorem exn_a {c : Nat → Nat} {a b n x : Nat} {Z : Nat → Bool} (hx : x < n) (h5 : n ≤ 5) : exn c a b Z n (a * 5 + x) = if Z x = true then c (b * 5 + x) else if a = b ∧ Z x = true then c (a * 5 + x) else c (a * 5 + x) := by
  unfold exn
  rw [show (a * 5 + x) / 5 = a by omega, show (a * 5 + x) % 5 = x by omega]
  by_cases e : Z x = true
  · rw [if_pos ⟨rfl, hx, e⟩, if_pos e]
  · rw [if_neg (fun z => e z.2.2), if_neg (fun z => e z.2.2), if_neg e, if_neg (fun z => e z.2)]
theorem exn_b {c : Nat → Nat} {a b n x : Nat} {Z : Nat → Bool} (hx : x < n) (h5 : n ≤ 5) (hab : a ≠ b) : exn c a b Z n (b * 5 + x) = if Z x = true then c (a * 5 + x) else c (b * 5 + x) := by
  unfold exn
  rw [show (b * 5 + x) / 5 = b by omega, show (b * 5 + x) % 5 = x by omega, if_neg (fun z => hab z.1.symm)]
  by_cases e : Z x = true
  · rw [if_pos ⟨rfl, hx, e⟩, if_pos e]
  · rw [if_neg (fun z => e z.2.2), if_neg e]
theorem exn_o {c : Nat → Nat} {a b n k : Nat} {Z : Nat → Bool} (h : (k / 5 ≠ a ∧ k / 5 ≠ b) ∨ n ≤ k % 5) : exn c a b Z n k = c k := by
  unfold exn
  rw [if_neg (by omega), if_neg (by omega)]
theorem exn_a2 {c : Nat → Nat} {a b n x : Nat} {Z : Nat → Bool} (hx : x < n) (h5 : n ≤ 5) : exn c a b Z n (a * 5 + x) = if Z x = true then c (b * 5 + x) else c (a * 5 + x) := by
  rw [exn_a hx h5]
  by_cases e : Z x = true
  · rw [if_pos e, if_pos e]
  · rw [if_neg e, if_neg e, if_neg (fun z => e z.2)]
theorem GI_swc {S : GS} (hg : GI S) {a b c : Nat} (ha : a < S.R) (hb : b < S.R) (hab : a ≠ b) (fa : S.fl a = true) (fb : S.fl b = true) (hc : c < S.C) : GI (S.swc a b (S.cyc a b c)) ∧ (S.swc a b (S.cyc a b c)).fl a = true ∧ (S.swc a b (S.cyc a b c)).fl b = true ∧ (∀ k, k < 25 → ((S.swc a b (S.cyc a b c)).c k = 5 ↔ S.c k = 5)) := by
  have hC := hg.C5
  have hR := hg.RC
  have ha5 : a < 5 := by omega
  have hb5 : b < 5 := by omega
  have cc : (S.swc a b (S.cyc a b c)).c = exn S.c a b (S.cyc a b c) S.C := rfl
  have hπ : ∀ c, c < S.C → S.pi a b c < S.C := fun c hc => (pi_sp hg ha5 hb5 fa fb hc).1
  have hi : ∀ c c', c < S.C → c' < S.C → S.pi a b c = S.pi a b c' → c = c' := fun c c' x y z => pi_inj hg ha5 hb5 fa fb x y z
  have va : ∀ x, x < S.C → exn S.c a b (S.cyc a b c) S.C (a * 5 + x) = if S.cyc a b c x = true then S.c (b * 5 + x) else S.c (a * 5 + x) := fun x hx => exn_a2 hx hC
  have vb : ∀ x, x < S.C → exn S.c a b (S.cyc a b c) S.C (b * 5 + x) = if S.cyc a b c x = true then S.c (a * 5 + x) else S.c (b * 5 + x) := fun x hx => exn_b hx hC hab
  have fA := fl_iff.mp fa
  have fB := fl_iff.mp fb
  have ea : ∀ k, k < 25 → (exn S.c a b (S.cyc a b c) S.C k = 5 ↔ S.c k = 5) := fun k hk => by
    by_cases e : k % 5 < S.C
    · by_cases e1 : k / 5 = a
      · rw [show k = a * 5 + k % 5 by omega, va _ e]
        have := fA _ e
        have := fB _ e
        split <;> simp_all
      · by_cases e2 : k / 5 = b
        · rw [show k = b * 5 + k % 5 by omega, vb _ e]
          have := fA _ e
          have := fB _ e
          split <;> simp_all
        · rw [exn_o (Or.inl ⟨e1, e2⟩)]
    · rw [exn_o (Or.inr (by omega))]
  have pre : ∀ y, y < S.C → S.cyc a b c (S.pi a b y) = S.cyc a b c y := fun y hy => OB_pre hπ hC hi hc hy
  -- a symbol of row b at x stands in row a at pi x
  have meet : ∀ x y, x < S.C → y < S.C → S.c (b * 5 + x) = S.c (a * 5 + y) → S.pi a b x = y := fun x y hx hy e => by
    have p := (pi_sp hg ha5 hb5 fa fb hx).2.1
    have px := hπ x hx
    rw [e] at p
    exact hg.row a _ _ ha5 (by omega) (by omega) p (by rw [p]; exact fA y hy)
  refine ⟨⟨hg.R1, hg.RC, hg.C2, hg.C5, fun k => ?_, fun k hk => ?_, fun r' j' a1 a2 a3 => ?_, fun r' j' j'' a1 a2 a3 a4 a5 => ?_, fun r' r'' j' a1 a2 a3 a4 a5 => ?_⟩, fl_iff.mpr (fun j hj => ?_), fl_iff.mpr (fun j hj => ?_), fun k hk => by rw [cc]; exact ea k hk⟩
  · rw [cc]; unfold exn
    split
    · exact hg.c5 _
    · split
      · exact hg.c5 _
      · exact hg.c5 _
  · rw [cc] at hk ⊢
    show _ < S.C
    unfold exn at hk ⊢
    split
    · next h => rw [if_pos h] at hk; exact hg.sy _ hk
    · next h =>
      rw [if_neg h] at hk
      split
      · next h2 => rw [if_pos h2] at hk; exact hg.sy _ hk
      · next h2 => rw [if_neg h2] at hk; exact hg.sy _ hk
  · have a3' : S.R ≤ r' ∨ S.C ≤ j' := a3
    rw [cc, exn_o (by omega)]
    exact hg.out r' j' a1 a2 a3'
  · rw [cc] at a4 a5
    have o1 : j' < S.C := by
      apply Classical.byContradiction
      intro z
      rw [exn_o (Or.inr (by omega)), hg.out r' j' a1 a2 (Or.inr (by omega))] at a5
      exact a5 rfl
    have o2 : j'' < S.C := by
      apply Classical.byContradiction
      intro z
      rw [a4, exn_o (Or.inr (by omega)), hg.out r' j'' a1 a3 (Or.inr (by omega))] at a5
      exact a5 rfl
    by_cases e1 : r' = a
    · subst e1
      rw [va _ o1, va _ o2] at a4
      by_cases z1 : S.cyc r' b c j' = true
      · rw [if_pos z1] at a4
        by_cases z2 : S.cyc r' b c j'' = true
        · rw [if_pos z2] at a4
          exact hg.row b j' j'' hb5 a2 a3 a4 (fB _ o1)
        · rw [if_neg z2] at a4
          have := pre j' o1
          rw [meet j' j'' o1 o2 a4, z1] at this
          exact absurd this z2
      · rw [if_neg z1] at a4
        by_cases z2 : S.cyc r' b c j'' = true
        · rw [if_pos z2] at a4
          have := pre j'' o2
          rw [meet j'' j' o2 o1 a4.symm, z2] at this
          exact absurd this z1
        · rw [if_neg z2] at a4
          exact hg.row r' j' j'' a1 a2 a3 a4 (fA _ o1)
    · by_cases e2 : r' = b
      · subst e2
        rw [vb _ o1, vb _ o2] at a4
        by_cases z1 : S.cyc a r' c j' = true
        · rw [if_pos z1] at a4
          by_cases z2 : S.cyc a r' c j'' = true
          · rw [if_pos z2] at a4
            exact hg.row a j' j'' ha5 a2 a3 a4 (fA _ o1)
          · rw [if_neg z2] at a4
            have := pre j'' o2
            rw [meet j'' j' o2 o1 a4.symm, z1] at this
            exact absurd this.symm z2
        · rw [if_neg z1] at a4
          by_cases z2 : S.cyc a r' c j'' = true
          · rw [if_pos z2] at a4
            have := pre j' o1
            rw [meet j' j'' o1 o2 a4, z2] at this
            exact absurd this.symm z1
          · rw [if_neg z2] at a4
            exact hg.row r' j' j'' a1 a2 a3 a4 (fB _ o1)
      · rw [exn_o (by omega)] at a4 a5
        rw [exn_o (by omega)] at a4
        exact hg.row r' j' j'' a1 a2 a3 a4 a5
  · rw [cc] at a4 a5
    have o1 : j' < S.C := by
      apply Classical.byContradiction
      intro z
      rw [exn_o (Or.inr (by omega)), hg.out r' j' a1 a3 (Or.inr (by omega))] at a5
      exact a5 rfl
    -- where a value came from
    have src : ∀ r, r < 5 → exn S.c a b (S.cyc a b c) S.C (r * 5 + j') = S.c ((if S.cyc a b c j' = true then (if r = a then b else if r = b then a else r) else r) * 5 + j') := fun r hr => by
      by_cases z : S.cyc a b c j' = true
      · rw [if_pos z]
        by_cases e1 : r = a
        · rw [if_pos e1, e1, va _ o1, if_pos z]
        · rw [if_neg e1]
          by_cases e2 : r = b
          · rw [if_pos e2, e2, vb _ o1, if_pos z]
          · rw [if_neg e2, exn_o (by omega)]
      · rw [if_neg z]
        by_cases e1 : r = a
        · rw [e1, va _ o1, if_neg z]
        · by_cases e2 : r = b
          · rw [e2, vb _ o1, if_neg z]
          · rw [exn_o (by omega)]
    rw [src r' a1] at a4 a5
    rw [src r'' a2] at a4
    have := hg.col _ _ j' (by split <;> (try split) <;> (try split) <;> omega) (by split <;> (try split) <;> (try split) <;> omega) a3 a4 a5
    split at this <;> (try split at this) <;> (try split at this) <;> (try split at this) <;> (try split at this) <;> omega
  · rw [cc]
    exact fun z => fA j hj ((ea (a * 5 + j) (by have : S.C ≤ 5 := hC; have : j < S.C := hj; omega)).mp z)
  · rw [cc]
    exact fun z => fB j hj ((ea (b * 5 + j) (by have : S.C ≤ 5 := hC; have : j < S.C := hj; omega)).mp z)
theorem nF_iff {c c' : Nat → Nat} : ∀ n, (∀ k, k < n → (c k = 5 ↔ c' k = 5)) → nF c n = nF c' n
  | 0, _ => rfl
  | n + 1, h => by
    unfold nF
    rw [nF_iff n (fun k hk => h k (by omega))]
    have := h n (by omega)
    by_cases e : c n = 5
    · rw [if_pos e, if_pos (this.mp e)]
    · rw [if_neg e, if_neg (fun z => e (this.mpr z))]
