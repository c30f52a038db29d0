/-! a StringBuilder -/
def sbF (v n : Nat) : z_C := .inr (12, [.ref v, .int (nI 0), .int (nI 0), .int (nI n)])
def byA (cap : Nat) (u : Nat → Nat) : z_C := .inl (.byte, cap, .inl fun j => nI (u j))
theorem sh_0 (x : Int32) : x >>> (nI 0 &&& 31) = x := by
  rw [show nI 0 &&& 31 = (0 : Int32) by decide +kernel]
  simp
theorem sl_0 (x : Int32) : x <<< (nI 0 &&& 31) = x := by
  rw [show nI 0 &&& 31 = (0 : Int32) by decide +kernel]
  simp
theorem ng_t : ∀ t, t < 1001 → ¬ (nI 0 < 0 - nI t) := by decide +kernel
theorem sub_pos {a b : Nat} (ha : a ≤ 1000) (hb : b ≤ 1000) : (nI 0 < nI a - nI b) = (b < a) := by
  by_cases h : b ≤ a
  · rw [cI_sub h, cI_lt (by omega) (by omega)]
    exact propext ⟨fun z => by omega, fun z => by omega⟩
  · have e : nI b = nI a + nI (b - a) := by rw [nI_add, show a + (b - a) = b by omega]
    have e2 : nI a - nI b = 0 - nI (b - a) := by
      rw [e]
      simp [Int32.sub_eq_add_neg, Int32.neg_add, ← Int32.add_assoc]
      try rw [Int32.add_right_neg]
      try simp
    rw [e2]
    exact propext ⟨fun z => absurd z (ng_t (b - a) (by omega)), fun z => by omega⟩
theorem nar_s : ∀ k, k < 128 → vp_nar .byte (nI k) = nI k := by decide +kernel
theorem fit_s : ∀ k, k < 128 → fits .byte (.int (nI k)) = true := by decide +kernel
theorem fitB_s {u : Nat → Nat} (hu : ∀ j, u j < 128) (p n : Nat) : z_fitB (fun j => nI (u j)) p n = true := by
  unfold z_fitB
  rw [List.all_eq_true]
  exact fun i _ => fit_s _ (hu _)
section
variable {F : Nat → Option z_C} {b v n cap : Nat} {u : Nat → Nat} {q : Option Nat × Nat × Nat}
theorem sb_0 (h : F b = some (sbF v n)) (K : Value → Prop) : z_gR F b 12 0 K = K (.ref v) := by simp only [z_gR, h, sbF, List.getElem?_cons_zero, true_and]
theorem sb_1 (h : F b = some (sbF v n)) (K : Int32 → Prop) : z_gI F b 12 1 K = K (nI 0) := by simp only [z_gI, h, sbF, List.getElem?_cons_succ, List.getElem?_cons_zero, true_and]
theorem sb_3 (h : F b = some (sbF v n)) (K : Int32 → Prop) : z_gI F b 12 3 K = K (nI n) := by simp only [z_gI, h, sbF, List.getElem?_cons_succ, List.getElem?_cons_zero, true_and]
theorem sb_O (h : F b = some (sbF v n)) : z_gO F b 12 := by simp only [z_gO, h, sbF]
theorem sb_N (h : F v = some (byA cap u)) (K : Nat → Prop) : z_aN F v K = K cap := by simp only [z_aN, h, byA]
theorem sb_p3 (h : F b = some (sbF v n)) (m : Nat) (K : (Nat → Option z_C) → Prop) : z_pF F b 12 3 (.int (nI m)) K = K (z_up F b (sbF v m)) := by simp only [z_pF, h, sbF, List.set_cons_zero, List.set_cons_succ, List.length_cons, List.length_nil, Nat.reduceAdd, Nat.reduceLT, true_and]
theorem sb_p0 (h : F b = some (sbF v n)) (w : Nat) (K : (Nat → Option z_C) → Prop) : z_pF F b 12 0 (.ref w) K = K (z_up F b (sbF w n)) := by simp only [z_pF, h, sbF, List.set_cons_zero, List.set_cons_succ, List.length_cons, List.length_nil, Nat.reduceAdd, Nat.reduceLT, true_and]
theorem by_S (h : F v = some (byA cap u)) {k c : Nat} (hk : k < cap) (hc : cap ≤ 1000) (hs : c < 128) (K : (Nat → Option z_C) → Prop) : z_aS F v z_tB (nI k) (nI c) K = K (z_up F v (byA cap (nu u k c))) := by
  have e := nar_s c hs
  simp (disch := omega) only [z_aS, h, byA, z_tB, cI_ix, cI_cl, true_and, e, upd_nI]
theorem by_L (h : F v = some (byA cap u)) {k : Nat} (hk : k < cap) (hc : cap ≤ 1000) (K : Int32 → Prop) : z_aL F v z_tB (nI k) K = K (nI (u k)) := by
  simp (disch := omega) only [z_aL, h, byA, z_tB, cI_ix, cI_cl, true_and]
/-- bytes copied, all of an array into a longer one that is empty -/
theorem cP_a {c2 k2 : Nat} {f : Nat → Int32} (hv : F v = some (byA cap u)) (hN : F c2 = some (.inl (.byte, k2, .inl fun _ => 0))) (hne : v ≠ c2) (hu : ∀ j, u j < 128) {l : Nat} (hl : l ≤ cap) (hl2 : l ≤ k2) (hc : cap ≤ 1000) (h2 : k2 ≤ 1000) (hz : ∀ j, l ≤ j → u j = 0) (K : z_H → Prop) : z_cP (F, q) (.ref v) (nI 0) c2 (nI 0) (nI l) K = K (z_up F c2 (byA k2 u), q) := by
  have e : z_cpy (F, q) (.ref v) (nI 0) c2 (nI 0) (nI l) = some (z_up F c2 (byA k2 u), q) := by
    unfold z_cpy
    dsimp only
    rw [hN]
    dsimp only
    rw [cI_cl (by omega), cI_cl (by omega), if_pos ⟨(cI_rng (by omega)).1, (cI_rng (by omega)).1, (cI_rng (by omega)).1, by omega⟩, hv]
    unfold byA
    dsimp only
    rw [if_pos ⟨hne, by omega, fitB_s hu 0 l⟩]
    have e2 : va_cpy (fun j => nI (u j)) (fun _ => 0) 0 0 l = fun j => nI (u j) := by
      funext j
      unfold va_cpy
      by_cases z : 0 ≤ j ∧ j < 0 + l
      · rw [if_pos z]
        congr 2
        omega
      · rw [if_neg z, hz j (by omega)]
        rfl
    rw [e2]
  unfold z_cP
  rw [e]
end
section
variable {g : z_G} {d b v n cap : Nat} {F : Nat → Option z_C} {u : Nat → Nat} {P : z_Res → Prop} {q : Option Nat × Nat × Nat}
theorem j_isL (h : F b = some (sbF v n)) : z_Ca g d 115 [.ref b] (F, q) P = P (.inr (some (.int (nI 1))), (F, q)) := by
  rw [zn_115]
  simp (disch := omega) only [ze_115_0, ze_115_3, ze_115_6, ze_115_7, ze_115_10, ze_115_13, ze_115_14, ze_115_17, ze_115_18, z_k_r, z_push_s, z_push_n, okS_0, okS_I, okS_R, okS_A, List.getElem?_cons_zero, List.getElem?_cons_succ, List.length_cons, List.length_nil, List.set_cons_zero, List.set_cons_succ, true_and, and_true, z_tI, z_tB, pk_mul, nI_add, cI_cl, cI_ix, nar_0, nar_1, nar_b, Nat.reduceAdd, Nat.reduceLT, Nat.reduceMul, cI_lt, cI_eq, ↓reduceIte, if_true, if_false, Nat.lt_irrefl, eq_self, Nat.reduceEqDiff, or_true, true_or, or_false, false_or, not_false_eq_true, not_true_eq_false, ce_5, zb_t, zb_f, sb_1 h]
theorem j_newL {a m p : Nat} (ha : a ≤ 1000) (hm : m ≤ 1000) (hp : p ≤ 1000) (h0 : 1 ≤ a) : z_Ca g d 141 [.int (nI a), .int (nI m), .int (nI p)] (F, q) P = P (.inr (some (.int (nI (a + max m p)))), (F, q)) := by
  have mx : (if nI m < nI p then nI p else nI m) = nI (max m p) := by
    by_cases z : m < p
    · rw [if_pos (by rw [cI_lt (by omega) (by omega)]; exact z), show max m p = p by omega]
    · rw [if_neg (by rw [cI_lt (by omega) (by omega)]; exact z), show max m p = m by omega]
  have big : ((2147483639 : Int32) < nI (a + max m p)) = False := by
    rw [show (2147483639 : Int32) = nI 2147483639 from rfl, cI_lt (by omega) (by omega)]
    exact eq_false (by omega)
  have pos : 0 < a + max m p := by omega
  rw [zn_141]
  simp (disch := first | omega | exact okS_0 _ | (simp only [okS_I, okS_R, okS_0]; done)) only [ze_141_0, ze_141_1, ze_141_2, ze_141_3, ze_141_6, ze_141_7, ze_141_8, ze_141_9, ze_141_10, ze_141_13, ze_141_14, ze_141_16, ze_141_19, ze_141_20, ze_141_21, ze_141_22, ze_141_26, z_k_r, z_push_s, z_push_n, okS_0, okS_I, okS_R, okS_A, List.getElem?_cons_zero, List.getElem?_cons_succ, List.length_cons, List.length_nil, List.set_cons_zero, List.set_cons_succ, true_and, and_true, z_tI, z_tB, pk_mul, nI_add, cI_cl, cI_ix, nar_0, nar_1, nar_b, Nat.reduceAdd, Nat.reduceLT, Nat.reduceMul, cI_lt, cI_eq, ↓reduceIte, if_true, if_false, Nat.lt_irrefl, eq_self, Nat.reduceEqDiff, or_true, true_or, or_false, false_or, not_false_eq_true, not_true_eq_false, ce_5, zb_t, zb_f]
  sorry
end
