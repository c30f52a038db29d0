/-! a Grid of the class: its six cells from a base on, told by cells c (5: empty), given gv, bans b, numbers; and its methods -/
def cd (c : Nat → Nat) (b : Nat → Nat → Bool) (C r j s : Nat) : Bool := decide (s < C) && decide (c (r * 5 + j) = 5) && !rU c r s && !cU c j s && !b (r * 5 + j) s
def GR (f : Nat → Option z_C) (a : Nat) (c : Nat → Nat) (gv : Nat → Bool) (b : Nat → Nat → Bool) (R C G N : Nat) : Prop :=
  f a = some (.inr (3, [.ref (a + 1), .ref (a + 2), .ref (a + 3), .ref (a + 4), .ref (a + 5), .int (nI R), .int (nI C), .int (nI (nF c 25)), .int (nI G), .int (nI N)])) ∧
  f (a + 1) = some (.inl (.int, 25, .inl fun k => zc (c k))) ∧ f (a + 2) = some (.inl (.boolean, 25, .inl fun k => zb (gv k))) ∧ f (a + 3) = some (.inl (.int, 25, .inl fun k => sS (b k))) ∧
  f (a + 4) = some (.inl (.int, 5, .inl fun r => sS (rU c r))) ∧ f (a + 5) = some (.inl (.int, 5, .inl fun j => sS (cU c j)))
/-- the heap with a Grid written over -/
def gw (f : Nat → Option z_C) (a : Nat) (c : Nat → Nat) (gv : Nat → Bool) (b : Nat → Nat → Bool) (R C G N : Nat) : Nat → Option z_C := fun x =>
  if x = a then some (.inr (3, [.ref (a + 1), .ref (a + 2), .ref (a + 3), .ref (a + 4), .ref (a + 5), .int (nI R), .int (nI C), .int (nI (nF c 25)), .int (nI G), .int (nI N)]))
  else if x = a + 1 then some (.inl (.int, 25, .inl fun k => zc (c k))) else if x = a + 2 then some (.inl (.boolean, 25, .inl fun k => zb (gv k))) else if x = a + 3 then some (.inl (.int, 25, .inl fun k => sS (b k)))
  else if x = a + 4 then some (.inl (.int, 5, .inl fun r => sS (rU c r))) else if x = a + 5 then some (.inl (.int, 5, .inl fun j => sS (cU c j))) else f x
theorem gw_eq {f f' : Nat → Option z_C} {a : Nat} {c : Nat → Nat} {gv : Nat → Bool} {b : Nat → Nat → Bool} {R C G N : Nat} (h : GR f' a c gv b R C G N) (ho : ∀ x, x ≠ a → x ≠ a + 1 → x ≠ a + 2 → x ≠ a + 3 → x ≠ a + 4 → x ≠ a + 5 → f' x = f x) : f' = gw f a c gv b R C G N := by
  obtain ⟨h0, h1, h2, h3, h4, h5⟩ := h
  funext x
  unfold gw
  split
  · next e => rw [e]; exact h0
  · split
    · next e => rw [e]; exact h1
    · split
      · next e => rw [e]; exact h2
      · split
        · next e => rw [e]; exact h3
        · split
          · next e => rw [e]; exact h4
          · split
            · next e => rw [e]; exact h5
            · exact ho x ‹_› ‹_› ‹_› ‹_› ‹_› ‹_›
theorem gw_GR (f : Nat → Option z_C) (a : Nat) (c : Nat → Nat) (gv : Nat → Bool) (b : Nat → Nat → Bool) (R C G N : Nat) : GR (gw f a c gv b R C G N) a c gv b R C G N := by
  refine ⟨?_, ?_, ?_, ?_, ?_, ?_⟩ <;> simp [gw]
theorem gw_ne {f : Nat → Option z_C} {a : Nat} {c : Nat → Nat} {gv : Nat → Bool} {b : Nat → Nat → Bool} {R C G N x : Nat} (h : x < a ∨ a + 5 < x) : gw f a c gv b R C G N x = f x := by
  unfold gw
  rw [if_neg (by omega), if_neg (by omega), if_neg (by omega), if_neg (by omega), if_neg (by omega), if_neg (by omega)]
theorem gw_id {f : Nat → Option z_C} {a : Nat} {c : Nat → Nat} {gv : Nat → Bool} {b : Nat → Nat → Bool} {R C G N : Nat} (h : GR f a c gv b R C G N) : gw f a c gv b R C G N = f := (gw_eq h (fun _ _ _ _ _ _ _ => rfl)).symm
theorem gw_gw (f : Nat → Option z_C) (a : Nat) (c c2 : Nat → Nat) (gv gv2 : Nat → Bool) (b b2 : Nat → Nat → Bool) (R C G N R2 C2 G2 N2 : Nat) : gw (gw f a c gv b R C G N) a c2 gv2 b2 R2 C2 G2 N2 = gw f a c2 gv2 b2 R2 C2 G2 N2 := by
  funext x
  by_cases h : x < a ∨ a + 5 < x
  · rw [gw_ne h, gw_ne h, gw_ne h]
  · unfold gw
    split
    · rfl
    · split
      · rfl
      · split
        · rfl
        · split
          · rfl
          · split
            · rfl
            · split
              · rfl
              · omega
section
variable {g : z_G} {d : Nat} {h : z_H} {P : z_Res → Prop} {a : Nat} {c : Nat → Nat} {gv : Nat → Bool} {b : Nat → Nat → Bool} {R C G N : Nat}
theorem s_cand (hg : GR h.1 a c gv b R C G N) (hc : ∀ k, c k ≤ 5) (hC : C ≤ 5) {r j : Nat} (hr : r < 5) (hj : j < 5) : z_Ca g d 38 [.ref a, .int (nI r), .int (nI j)] h P = P (.inr (some (.int (sS (cd c b C r j)))), h) := by
  obtain ⟨h0, h1, h2, h3, h4, h5⟩ := hg
  have e5 := zc_em (hc (r * 5 + j))
  rw [zn_38]
  simp (disch := omega) only [ze_38_0, ze_38_1, ze_38_2, ze_38_3, ze_38_4, ze_38_5, ze_38_6, ze_38_7, ze_38_10, ze_38_11, ze_38_12, ze_38_13, ze_38_16, ze_38_17, ze_38_18, ze_38_19, ze_38_20, ze_38_23, ze_38_24, ze_38_25, ze_38_26, ze_38_27, ze_38_30, ze_38_31, ze_38_32, ze_38_33, ze_38_36, ze_38_37, ze_38_38, ze_38_39, ze_38_40, ze_38_43, ze_38_44, ze_38_45, ze_38_46, ze_38_47, ze_38_48, ze_38_49, z_gI, z_gR, z_pF, z_aL, z_aS, z_gO, z_k_r, z_push_s, z_push_n, okS_0, okS_I, okS_R, okS_A, List.getElem?_cons_zero, List.getElem?_cons_succ, List.length_cons, List.length_nil, List.set_cons_zero, List.set_cons_succ, true_and, and_true, z_tI, z_tB, pk_mul, nI_add, cI_cl, cI_ix, h0, h1, h2, h3, h4, h5]
  by_cases q : c (r * 5 + j) = 5
  · rw [if_pos (by rw [e5]; exact q)]
    rw [sS_full hC, sS_or, sS_or, sS_andn]
    congr 4
    refine sS_congr fun s hs => ?_
    simp [cd, q, Bool.and_assoc]
  · rw [if_neg (by rw [e5]; exact q)]
    congr 4
    rw [sS_0]
    refine sS_congr fun s hs => ?_
    simp [cd, q]
end
