/-! trades, on both sides -/
theorem any_t {p : Nat → Bool} {n k : Nat} (h : k < n) (e : p k = true) : anyB p n = true := (anyB_iff p n).mpr ⟨k, h, e⟩
theorem any_f {p : Nat → Bool} {n : Nat} : anyB p n = false ↔ ∀ k, k < n → p k = false := by
  constructor
  · intro h k hk
    cases e : p k
    · rfl
    · rw [any_t hk e] at h
      cases h
  · intro h
    cases e : anyB p n
    · rfl
    · obtain ⟨k, h1, h2⟩ := (anyB_iff p n).mp e
      rw [h k h1] at h2
      cases h2
theorem any_congr {p p' : Nat → Bool} {n : Nat} (h : ∀ k, k < n → p k = p' k) : anyB p n = anyB p' n := by
  apply b_ext2
  rw [anyB_iff, anyB_iff]
  constructor
  · rintro ⟨k, h1, h2⟩
    exact ⟨k, h1, by rw [← h k h1]; exact h2⟩
  · rintro ⟨k, h1, h2⟩
    exact ⟨k, h1, by rw [h k h1]; exact h2⟩
def bd (c t : Nat → Nat) (k : Nat) : Bool := df c t k && (decide (c k = 5) || decide (t k = 5))
def cb (c t : Nat → Nat) (fi st s : Nat) : Bool := anyB (fun n => df c t (fi + n * st) && decide (c (fi + n * st) = s)) 5
def lnE (c t : Nat → Nat) (l : Nat) : Bool := decide (sS (cb c t (l * 5) 1) = sS (cb t c (l * 5) 1)) && decide (sS (cb c t l 5) = sS (cb t c l 5))
def tr (c t : Nat → Nat) : Bool := !decide (ct (df c t) 0 25 = 0) && (!anyB (bd c t) 25 && !anyB (fun l => !lnE c t l) 5)
theorem df_comm (c t : Nat → Nat) (k : Nat) : df t c k = df c t k := by
  unfold df
  congr 1
  exact decide_eq_decide.mpr ⟨Eq.symm, Eq.symm⟩
section
variable {g : z_G} {d : Nat} {f : Nat → Option z_C} {q : Option Nat × Nat × Nat} {P : z_Res → Prop} {B : Nat} {G : Nat → GS} {I : Nat → Int32} {A : Nat → Nat → Int32}
theorem bd_comm (c t : Nat → Nat) (k : Nat) : bd t c k = bd c t k := by
  unfold bd
  rw [df_comm, Bool.or_comm]
end
-- the reference
section
variable {g : z_G} {d : Nat} {f : Nat → Option z_C} {q : Option Nat × Nat × Nat} {P : z_Res → Prop} {m : Nat} {I : Nat → Int32} {A : Nat → Nat → Int32} {S : GS}
/-- what is told of a line's two sets -/
def ul (c t : Nat → Nat) (fi st : Nat) : Int32 := if anyB (fun n => bd c t (fi + n * st)) 5 = true then -1 else sS (cb c t fi st) ^^^ sS (cb t c fi st)
def lnU (c t : Nat → Nat) (l : Nat) : Bool := decide (ul c t (l * 5) 1 = nI 0) && decide (ul c t l 5 = nI 0)
theorem xor_0 {p p' : Nat → Bool} : (sS p ^^^ sS p' = nI 0) = (sS p = sS p') := by
  rw [sS_xor, sS_eq0, sS_eq]
  refine propext ⟨fun h s hs => ?_, fun h s hs => ?_⟩
  · have := h s hs
    cases a : p s <;> cases b : p' s <;> simp_all
  · rw [h s hs]
    simp
theorem m1_ne0 : ((-1 : Int32) = nI 0) = False := by
  refine eq_false ?_
  decide
theorem tr_U (c t : Nat → Nat) : tr c t = (!decide (ct (df c t) 0 25 = 0) && !anyB (fun l => !lnU c t l) 5) := by
  unfold tr
  congr 1
  by_cases hb : anyB (bd c t) 25 = true
  · rw [hb]
    obtain ⟨k, k1, k2⟩ := (anyB_iff _ _).mp hb
    rw [any_t (p := fun l => !lnU c t l) (k := k / 5) (by omega)]
    · rfl
    · have : ul c t (k / 5 * 5) 1 = -1 := by
        unfold ul
        rw [if_pos]
        refine any_t (k := k % 5) (by omega) ?_
        rw [Nat.mul_one, k_split]
        exact k2
      unfold lnU
      rw [this, decide_eq_false (by rw [m1_ne0]; exact id)]
      rfl
  · have hb' : anyB (bd c t) 25 = false := by simpa using hb
    have nb := any_f.mp hb'
    rw [hb', Bool.not_false, Bool.true_and]
    congr 1
    refine any_congr fun l hl => ?_
    congr 1
    unfold lnU lnE ul
    rw [if_neg (by rw [any_f.mpr (fun n hn => nb _ (by omega))]; decide), if_neg (by rw [any_f.mpr (fun n hn => nb _ (by omega))]; decide)]
    simp only [xor_0]
end
