/-! the text, the sizes, the uses -/
section
variable {g : z_G} {d : Nat} {f : Nat → Option z_C} {fr : Option Int32 → (Nat → GS) → (Nat → Int32) → (Nat → Nat → Int32) → Nat → Option z_C} {q : Option Nat × Nat × Nat} {P : z_Res → Prop} {B m : Nat} {G : Nat → GS} {I I' : Nat → Int32} {A A' : Nat → Nat → Int32} {J J' : Nat → Int32} {K K' : Nat → Nat → Int32} {S : GS}
theorem ap4_bs {F : Nat → Int32} (n : Nat) (x : Int32) {k : Nat} (h : ∃ t, t < 256 ∧ F k = bs t) : ∃ t, t < 256 ∧ ap4 F n x k = bs t := by
  unfold ap4
  by_cases e : n ≤ k ∧ k < n + 4
  · rw [if_pos e]
    exact ⟨_, (by4 x (k - n)).toBitVec.isLt, bs_8 _⟩
  · rw [if_neg e]
    exact h
theorem ap4_cg {F F' : Nat → Int32} (n : Nat) (x : Int32) {k : Nat} (h : F k = F' k) : ap4 F n x k = ap4 F' n x k := by
  unfold ap4
  rw [h]
theorem ap20_bs {F : Nat → Int32} (n : Nat) (a b c d' e : Int32) {k : Nat} (h : ∃ t, t < 256 ∧ F k = bs t) : ∃ t, t < 256 ∧ ap20 F n a b c d' e k = bs t := ap4_bs _ _ (ap4_bs _ _ (ap4_bs _ _ (ap4_bs _ _ (ap4_bs _ _ h))))
theorem ap20_cg {F F' : Nat → Int32} (n : Nat) (a b c d' e : Int32) {k : Nat} (h : F k = F' k) : ap20 F n a b c d' e k = ap20 F' n a b c d' e k := ap4_cg _ _ (ap4_cg _ _ (ap4_cg _ _ (ap4_cg _ _ (ap4_cg _ _ h))))
theorem ct_sh (p : Nat → Bool) (a : Nat) : ∀ k i, ct p (a + i) k = ct (fun j => p (a + j)) i k
  | 0, i => rfl
  | k + 1, i => by
    rw [ct_s, ct_s, ← ct_sh p a k (i + 1)]
    rfl
theorem sm_split (p : Nat → Nat) : ∀ m k i, sm p i (m + k) = sm p i m + sm p (i + m) k
  | 0, k, i => by rw [Nat.zero_add, sm_z, Nat.zero_add, Nat.add_zero]
  | m + 1, k, i => by
    rw [show m + 1 + k = (m + k) + 1 by omega, sm_s, sm_s, sm_split p m k (i + 1), show i + 1 + m = i + (m + 1) by omega]
    omega
theorem us_0 {c : Nat → Nat} {R C s : Nat} (h : ∀ k, c k ≠ s) : us c R C s = 0 := by
  unfold us
  exact (sm_congr (q := fun _ => 0) R 0 (fun r _ _ => show usR c C s r = 0 from ct_zero _ _ (fun j _ _ => decide_eq_false (h _)))).trans (sm_0 _ _)
theorem us_25 (hg : GI S) {s : Nat} (hs : s < 5) : us S.c S.R S.C s = ct (fun k => decide (S.c k = s)) 0 25 := by
  have hC := hg.C5
  have hR := hg.RC
  have h1 : us S.c S.R S.C s = sm (fun r => ct (fun j => decide (S.c (r * 5 + j) = s)) 0 5) 0 5 := by
    unfold us
    have z := sm_split (fun r => ct (fun j => decide (S.c (r * 5 + j) = s)) 0 5) S.R (5 - S.R) 0
    rw [show S.R + (5 - S.R) = 5 by omega] at z
    rw [z, sm_congr (p := fun r => ct (fun j => decide (S.c (r * 5 + j) = s)) 0 5) (q := fun _ => 0) (5 - S.R), sm_0, Nat.add_zero]
    · refine sm_congr _ _ fun r _ hr => ?_
      unfold usR
      have y := ct_split (fun j => decide (S.c (r * 5 + j) = s)) S.C (5 - S.C) 0
      rw [show S.C + (5 - S.C) = 5 by omega] at y
      rw [y, ct_zero (5 - S.C), Nat.add_zero]
      intro j h1 h2
      refine decide_eq_false ?_
      rw [hg.out r j (by omega) (by omega) (.inr (by omega))]
      omega
    · intro r h1 h2
      refine ct_zero _ _ fun j h3 h4 => decide_eq_false ?_
      rw [hg.out r j (by omega) (by omega) (.inl (by omega))]
      omega
  rw [h1]
  have e := fun a => ct_sh (fun k => decide (S.c k = s)) a 5 0
  have s1 := ct_split (fun k => decide (S.c k = s)) 5 20 0
  have s2 := ct_split (fun k => decide (S.c k = s)) 5 15 5
  have s3 := ct_split (fun k => decide (S.c k = s)) 5 10 10
  have s4 := ct_split (fun k => decide (S.c k = s)) 5 5 15
  have e0 := e 0
  have e1 := e 5
  have e2 := e 10
  have e3 := e 15
  have e4 := e 20
  simp only [Nat.reduceAdd, Nat.add_zero, Nat.zero_add] at s1 s2 s3 s4 e0 e1 e2 e3 e4
  simp only [sm_s, sm_z, Nat.zero_add, Nat.reduceAdd, Nat.reduceMul, Nat.zero_mul]
  omega
end
