/-! changes: rules, rows, stepping back, snapshots -/
section
variable {g : z_G} {d : Nat} {f : Nat → Option z_C} {fr : Option Int32 → (Nat → GS) → (Nat → Int32) → (Nat → Nat → Int32) → Nat → Option z_C} {q : Option Nat × Nat × Nat} {P : z_Res → Prop} {B m : Nat} {G G' : Nat → GS} {I I' : Nat → Int32} {A A' : Nat → Nat → Int32} {J J' : Nat → Int32} {K K' : Nat → Nat → Int32} {S : GS} {cm mm : Nat} {hs : List (String × Nat)} {bo : Bool} {as : List Value}
theorem iSN.same (h : iSN S A K) (a4 : A' 43 = A 43) (a5 : A' 44 = A 44) (a6 : A' 45 = A 45) (k5 : K' 9 = K 9) (k6 : K' 12 = K 12) : iSN S A' K' := by
  obtain ⟨sv, t, s1⟩ := h
  refine ⟨sv, t, fun s hs => ?_⟩
  obtain ⟨v1, v2, v3⟩ := s1 s hs
  refine ⟨by rw [a6]; exact v1, by rw [k6]; exact v2, fun z => ?_⟩
  obtain ⟨w1, w2, w3⟩ := v3 z
  refine ⟨w1, fun k hk => ?_, fun k hk => by rw [k5]; exact w3 k hk⟩
  rcases (show s = 0 ∨ s = 1 by omega) with rfl | rfl
  · show A' 43 k = _
    rw [a4]
    exact w2 k hk
  · show A' 44 k = _
    rw [a5]
    exact w2 k hk
theorem sc_of {T : GS} (h : T.R = S.R ∧ T.C = S.C ∧ T.gv = S.gv ∧ T.b = S.b ∧ T.G = S.G ∧ T.N = S.N) : T = S.sc T.c := by
  obtain ⟨h1, h2, h3, h4, h5, h6⟩ := h
  show (⟨T.c, T.gv, T.b, T.R, T.C, T.G, T.N⟩ : GS) = S.sc T.c
  rw [h1, h2, h3, h4, h5, h6]
  rfl
theorem kpF_cg {F N N' : Nat → Int32} {cn : Nat} (h : ∀ k, k < 25 → N k = N' k) : kpF F N cn = kpF F N' cn := by
  unfold kpF cpF
  by_cases e : cn = 10
  · rw [if_pos e, if_pos e]
    funext k
    by_cases z : 225 ≤ k ∧ k < 225 + 25
    · rw [if_pos z, if_pos z, h _ (by omega)]
    · rw [if_neg z, if_neg z]
  · rw [if_neg e, if_neg e]
    funext k
    by_cases z : 25 * cn ≤ k ∧ k < 25 * cn + 25
    · rw [if_pos z, if_pos z, h _ (by omega)]
    · rw [if_neg z, if_neg z]
theorem cp0 {F T : Nat → Int32} {k : Nat} (h : k < 25) : cpF F T 0 0 25 k = F k := by
  unfold cpF
  rw [if_pos (by omega), Nat.zero_add, Nat.sub_zero]
theorem cRC.p (nx cn : Nat) (S : GS) (F : Nat → Int32) (h : iWK I A) (hx : nx < 10) : cRC nx cn I (upd (upd I 12 (nI ((nx + 1) % 10))) 13 (nI (min (cn + 1) 10))) A (uA (uA A 46 F) (31 + nx) fun k => ce (S.c k)) S := by
  obtain ⟨ol, n, h1, h2⟩ := h
  refine ⟨?_, ?_, upd_at _ _ _, ?_, ⟨ol, n, ?_, ?_⟩, ?_, fun i hi => ?_, ?_, ?_, ?_⟩
  · rw [upd_ne (by omega), upd_ne (by omega)]
  · rw [upd_ne (by omega), upd_at]
  · rw [upd_ne (by omega), upd_ne (by omega)]
  · rw [upd_ne (by omega), upd_ne (by omega)]
    exact h1
  · rw [uA_n _ _ (by omega), uA_n _ _ (by omega)]
    exact h2
  · rw [uA_n _ _ (by omega), uA_n _ _ (by omega)]
  · by_cases e : i = nx
    · rw [if_pos e, e, uA_s]
    · rw [if_neg e, uA_n _ _ (by omega), uA_n _ _ (by omega)]
  · rw [uA_n _ _ (by omega), uA_n _ _ (by omega)]
  · rw [uA_n _ _ (by omega), uA_n _ _ (by omega)]
  · rw [uA_n _ _ (by omega), uA_n _ _ (by omega)]
end
