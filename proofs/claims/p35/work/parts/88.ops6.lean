/-! changes: filling and emptying a cell -/
section
variable {g : z_G} {d : Nat} {f : Nat → Option z_C} {fr : Option Int32 → (Nat → GS) → (Nat → Int32) → (Nat → Nat → Int32) → Nat → Option z_C} {q : Option Nat × Nat × Nat} {P : z_Res → Prop} {B m : Nat} {G G' : Nat → GS} {I I' : Nat → Int32} {A A' : Nat → Nat → Int32} {J J' : Nat → Int32} {K K' : Nat → Nat → Int32} {S : GS} {cm mm : Nat} {hs : List (String × Nat)} {bo : Bool} {as : List Value}
/-- what a recorded change keeps -/
def cRC (nx cn : Nat) (I I' : Nat → Int32) (A A' : Nat → Nat → Int32) (S : GS) : Prop := I' 0 = I 0 ∧ I' 12 = nI ((nx + 1) % 10) ∧ I' 13 = nI (min (cn + 1) 10) ∧ I' 14 = I 14 ∧ iWK I' A' ∧ A' 8 = A 8 ∧ (∀ i, i < 10 → A' (31 + i) = if i = nx then (fun k => ce (S.c k)) else A (31 + i)) ∧ A' 43 = A 43 ∧ A' 44 = A 44 ∧ A' 45 = A 45
def mRC (cn : Nat) (J J' : Nat → Int32) (K K' : Nat → Nat → Int32) : Prop := J' 1 = J 1 ∧ J' 2 = J 2 ∧ J' 3 = J 3 ∧ J' 13 = J 13 ∧ J' 20 = J 20 ∧ J' 23 = nI (min (cn + 1) 10) ∧ K' 1 = K 1 ∧ K' 2 = K 2 ∧ K' 6 = K 6 ∧ K' 8 = kpF (K 8) (K 5) cn ∧ K' 9 = K 9 ∧ K' 12 = K 12
theorem cRC.r (nx cn : Nat) (S : GS) (h : iWK I A) (hx : nx < 10) : cRC nx cn I (upd (upd I 12 (nI ((nx + 1) % 10))) 13 (nI (min (cn + 1) 10))) A (uA A (31 + nx) fun k => ce (S.c k)) S := by
  obtain ⟨ol, n, h1, h2⟩ := h
  refine ⟨?_, ?_, upd_at _ _ _, ?_, ⟨ol, n, ?_, ?_⟩, uA_n _ _ (by omega), fun i hi => ?_, uA_n _ _ (by omega), uA_n _ _ (by omega), uA_n _ _ (by omega)⟩
  · rw [upd_ne (by omega), upd_ne (by omega)]
  · rw [upd_ne (by omega), upd_at]
  · rw [upd_ne (by omega), upd_ne (by omega)]
  · rw [upd_ne (by omega), upd_ne (by omega)]
    exact h1
  · rw [uA_n _ _ (by omega)]
    exact h2
  · by_cases e : i = nx
    · rw [if_pos e, e, uA_s]
    · rw [if_neg e, uA_n _ _ (by omega)]
theorem mRC.r (cn : Nat) (F : Nat → Int32) (J : Nat → Int32) (K : Nat → Nat → Int32) : mRC cn J (upd (upd J 0 (nI 0)) 23 (nI (min (cn + 1) 10))) K (uA (uA K 8 (kpF (K 8) (K 5) cn)) 5 F) := by
  refine ⟨?_, ?_, ?_, ?_, ?_, upd_at _ _ _, ?_, ?_, ?_, ?_, ?_, ?_⟩
  all_goals first | rw [upd_ne (by omega), upd_ne (by omega)] | rw [uA_n _ _ (by omega), uA_n _ _ (by omega)] | rw [uA_n _ _ (by omega), uA_s]
theorem cI_mulN {a b : Nat} (ha : a < 1000) (hb : b < 1000) : nI a * nI b = nI (a * b) := pk_mul a b
end
