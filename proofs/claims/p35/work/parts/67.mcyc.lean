/-! the reference: cycles in their order, intercalates, what is asked before -/
section
variable {g : z_G} {d : Nat} {f : Nat → Option z_C} {q : Option Nat × Nat × Nat} {P : z_Res → Prop} {m : Nat} {I : Nat → Int32} {A : Nat → Nat → Int32} {S : GS}
def ocv (w : Nat) (o : Option Nat) : Int32 := match o with
  | some i => cv w i
  | none => -1
/-- the class's list and the reference's search tell the same -/
theorem SO_kf (hg : GI S) {F : Nat → Int32} {e : Nat → Nat} {cnt X : Nat} (h : SO S F e cnt 125) (hc : cnt ≤ 20) (hX : X < 2147483648) : kf S.pc (nI X) 125 (S.C * 125) 0 = if X < cnt then some (e X) else none := by
  have hC := hg.C5
  obtain ⟨h1, h2, h3, h4⟩ := h
  have rng : ∀ j, j < cnt → 125 ≤ e j ∧ e j < 125 + S.C * 125 := by
    intro j hj
    have z := ((h4 (e j) (h3 j hj)).mp ⟨j, hj, rfl⟩).1
    unfold GS.pc at z
    simp only [Bool.and_eq_true, decide_eq_true_eq] at z
    obtain ⟨⟨⟨⟨⟨⟨z1, z2⟩, z3⟩, z4⟩, z5⟩, z6⟩, z7⟩ := z
    have hR := hg.RC
    have hπ : ∀ c, c < S.C → S.pi (e j / 25 % 5) (e j / 5 % 5) c < S.C := fun c hc => (pi_sp hg (by omega) (by omega) z3 z4 hc).1
    have a1 := (pop_sub hC (OB_sub hπ z5 S.C)).1
    have a2 : 1 ≤ pop (S.cyc (e j / 25 % 5) (e j / 5 % 5) (e j % 5)) := by
      have own : S.cyc (e j / 25 % 5) (e j / 5 % 5) (e j % 5) (e j % 5) = true := OB_iff.mpr ⟨0, by omega, rfl⟩
      have := pop_ad (p := fun _ => false) (x := e j % 5) (by omega) rfl
      apply Classical.byContradiction
      intro z8
      have z9 : pop (S.cyc (e j / 25 % 5) (e j / 5 % 5) (e j % 5)) = 0 := by omega
      unfold pop at z9
      have key : ∀ b : Bool, b.toNat = 0 → b = false := by decide
      have hm : e j % 5 < 5 := by omega
      rcases five hm with r | r | r | r | r
      · rw [r] at own z9
        have := key _ (by omega : (S.cyc (e j / 25 % 5) (e j / 5 % 5) 0 0).toNat = 0)
        rw [own] at this; cases this
      · rw [r] at own z9
        have := key _ (by omega : (S.cyc (e j / 25 % 5) (e j / 5 % 5) 1 1).toNat = 0)
        rw [own] at this; cases this
      · rw [r] at own z9
        have := key _ (by omega : (S.cyc (e j / 25 % 5) (e j / 5 % 5) 2 2).toNat = 0)
        rw [own] at this; cases this
      · rw [r] at own z9
        have := key _ (by omega : (S.cyc (e j / 25 % 5) (e j / 5 % 5) 3 3).toNat = 0)
        rw [own] at this; cases this
      · rw [r] at own z9
        have := key _ (by omega : (S.cyc (e j / 25 % 5) (e j / 5 % 5) 4 4).toNat = 0)
        rw [own] at this; cases this
    have a1' : pop (S.cyc (e j / 25 % 5) (e j / 5 % 5) (e j % 5)) ≤ S.C := a1
    have b3 := h3 j hj
    omega
  refine kf_sorted hX (by omega) h1 (S.C * 125) 125 0 (fun idx i1 i2 => ?_) (fun j hj => ?_) (fun j hj => (rng j hj).2) (by omega) (by omega)
  · have := h4 idx (by omega)
    rw [this]
    exact ⟨fun z => ⟨z, by omega⟩, fun z => z.1⟩
  · have := rng j hj
    omega
-- intercalates
end
