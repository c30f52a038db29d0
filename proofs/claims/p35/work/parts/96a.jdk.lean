/-! a StringBuilder -/
def sbF (v n : Nat) : z_C := .inr (12, [.ref v, .int (nI 0), .int (nI 0), .int (nI n)])
def byA (cap : Nat) (u : Nat → Nat) : z_C := .inl (.byte, cap, .inl fun j => nI (u j))
theorem sh_0 (x : Int32) : x >>> (nI 0 &&& 31) = x := by
  rw [show nI 0 &&& 31 = (0 : Int32) by decide +kernel]
  simp
theorem sl_0 (x : Int32) : x <<< (nI 0 &&& 31) = x := by
  rw [show nI 0 &&& 31 = (0 : Int32) by decide +kernel]
  simp
theorem ng_t : ∀ t, t < 1001 → ¬ (nI 0 < 0 - nI t) := by decide +kernel
theorem sub_pos {a b : Nat} (ha : a ≤ 1000) (hb : b ≤ 1000) : (nI 0 < nI a - nI b) = (b < a) := by
  by_cases h : b ≤ a
  · rw [cI_sub h, cI_lt (by omega) (by omega)]
    exact propext ⟨fun z => by omega, fun z => by omega⟩
  · have e : nI b = nI a + nI (b - a) := by rw [nI_add, show a + (b - a) = b by omega]
    have e2 : nI a - nI b = 0 - nI (b - a) := by
      rw [e]
      simp [Int32.sub_eq_add_neg, Int32.neg_add, ← Int32.add_assoc]
      try rw [Int32.add_right_neg]
      try simp
    rw [e2]
    exact propext ⟨fun z => absurd z (ng_t (b - a) (by omega)), fun z => by omega⟩
theorem nar_s : ∀ k, k < 128 → vp_nar .byte (nI k) = nI k := by decide +kernel
theorem fit_s : ∀ k, k < 128 → fits .byte (.int (nI k)) = true := by decide +kernel
theorem fitB_s {u : Nat → Nat} (hu : ∀ j, u j < 128) (p n : Nat) : z_fitB (fun j => nI (u j)) p n = true := by
  unfold z_fitB
  rw [List.all_eq_true]
  exact fun i _ => fit_s _ (hu _)
section
variable {F : Nat → Option z_C} {b v n cap : Nat} {u : Nat → Nat} {q : Option Nat × Nat × Nat}
theorem sb_0 (h : F b = some (sbF v n)) (K : Value → Prop) : z_gR F b 12 0 K = K (.ref v) := by simp only [z_gR, h, sbF, List.getElem?_cons_zero, true_and]
theorem sb_1 (h : F b = some (sbF v n)) (K : Int32 → Prop) : z_gI F b 12 1 K = K (nI 0) := by simp only [z_gI, h, sbF, List.getElem?_cons_succ, List.getElem?_cons_zero, true_and]
theorem sb_3 (h : F b = some (sbF v n)) (K : Int32 → Prop) : z_gI F b 12 3 K = K (nI n) := by simp only [z_gI, h, sbF, List.getElem?_cons_succ, List.getElem?_cons_zero, true_and]
theorem sb_O (h : F b = some (sbF v n)) : z_gO F b 12 := by simp only [z_gO, h, sbF]
theorem sb_N (h : F v = some (byA cap u)) (K : Nat → Prop) : z_aN F v K = K cap := by simp only [z_aN, h, byA]
theorem sb_p3 (h : F b = some (sbF v n)) (m : Nat) (K : (Nat → Option z_C) → Prop) : z_pF F b 12 3 (.int (nI m)) K = K (z_up F b (sbF v m)) := by simp only [z_pF, h, sbF, List.set_cons_zero, List.set_cons_succ, List.length_cons, List.length_nil, Nat.reduceAdd, Nat.reduceLT, true_and]
theorem sb_p0 (h : F b = some (sbF v n)) (w : Nat) (K : (Nat → Option z_C) → Prop) : z_pF F b 12 0 (.ref w) K = K (z_up F b (sbF w n)) := by simp only [z_pF, h, sbF, List.set_cons_zero, List.set_cons_succ, List.length_cons, List.length_nil, Nat.reduceAdd, Nat.reduceLT, true_and]
theorem by_S (h : F v = some (byA cap u)) {k c : Nat} (hk : k < cap) (hc : cap ≤ 1000) (hs : c < 128) (K : (Nat → Option z_C) → Prop) : z_aS F v z_tB (nI k) (nI c) K = K (z_up F v (byA cap (nu u k c))) := by
  have e := nar_s c hs
  simp (disch := omega) only [z_aS, h, byA, z_tB, cI_ix, cI_cl, true_and, e, upd_nI]
theorem by_L (h : F v = some (byA cap u)) {k : Nat} (hk : k < cap) (hc : cap ≤ 1000) (K : Int32 → Prop) : z_aL F v z_tB (nI k) K = K (nI (u k)) := by
  simp (disch := omega) only [z_aL, h, byA, z_tB, cI_ix, cI_cl, true_and]
/-- bytes copied, all of an array into a longer one that is empty -/
theorem cP_a {c2 k2 : Nat} (hv : F v = some (byA cap u)) (hN : F c2 = some (.inl (.byte, k2, .inl fun _ => 0))) (hne : v ≠ c2) (hu : ∀ j, u j < 128) {l : Nat} (hl : l ≤ cap) (hl2 : l ≤ k2) (hc : cap ≤ 1000) (h2 : k2 ≤ 1000) (hz : ∀ j, l ≤ j → u j = 0) (K : z_H → Prop) : z_cP (F, q) (.ref v) (nI 0) c2 (nI 0) (nI l) K = K (z_up F c2 (byA k2 u), q) := by
  have e : z_cpy (F, q) (.ref v) (nI 0) c2 (nI 0) (nI l) = some (z_up F c2 (byA k2 u), q) := by
    unfold z_cpy
    dsimp only
    rw [hN]
    dsimp only
    rw [cI_cl (by omega), cI_cl (by omega), if_pos ⟨(cI_rng (by omega)).1, (cI_rng (by omega)).1, (cI_rng (by omega)).1, by omega⟩, hv]
    unfold byA
    dsimp only
    rw [if_pos ⟨hne, by omega, fitB_s hu 0 l⟩]
    have e2 : va_cpy (fun j => nI (u j)) (fun _ => 0) 0 0 l = fun j => nI (u j) := by
      funext j
      unfold va_cpy
      by_cases z : 0 ≤ j ∧ j < 0 + l
      · rw [if_pos z]
        congr 2
        omega
      · rw [if_neg z, hz j (by omega)]
        rfl
    rw [e2]
  unfold z_cP
  rw [e]
end
section
variable {g : z_G} {d b v n cap : Nat} {F : Nat → Option z_C} {u : Nat → Nat} {P : z_Res → Prop} {q : Option Nat × Nat × Nat}
theorem j_isL (h : F b = some (sbF v n)) : z_Ca g d 115 [.ref b] (F, q) P = P (.inr (some (.int (nI 1))), (F, q)) := by
  rw [zn_115]
  simp (disch := omega) only [ze_115_0, ze_115_3, ze_115_6, ze_115_7, ze_115_10, ze_115_13, ze_115_14, ze_115_17, ze_115_18, z_k_r, z_push_s, z_push_n, okS_0, okS_I, okS_R, okS_A, List.getElem?_cons_zero, List.getElem?_cons_succ, List.length_cons, List.length_nil, List.set_cons_zero, List.set_cons_succ, true_and, and_true, z_tI, z_tB, pk_mul, nI_add, cI_cl, cI_ix, nar_0, nar_1, nar_b, Nat.reduceAdd, Nat.reduceLT, Nat.reduceMul, cI_lt, cI_eq, ↓reduceIte, if_true, if_false, Nat.lt_irrefl, eq_self, Nat.reduceEqDiff, or_true, true_or, or_false, false_or, not_false_eq_true, not_true_eq_false, ce_5, zb_t, zb_f, sb_1 h]
theorem j_newL {a m p : Nat} (ha : a ≤ 1000) (hm : m ≤ 1000) (hp : p ≤ 1000) (h0 : 1 ≤ a) : z_Ca g d 141 [.int (nI a), .int (nI m), .int (nI p)] (F, q) P = P (.inr (some (.int (nI (a + max m p)))), (F, q)) := by
  have mx : (if m < p then nI p else nI m) = nI (max m p) := by
    by_cases z : m < p
    · rw [if_pos z, show max m p = p by omega]
    · rw [if_neg z, show max m p = m by omega]
  have big : ((2147483639 : Int32) < nI (a + max m p)) = False := by
    rw [show (2147483639 : Int32) = nI 2147483639 from rfl, cI_lt (by omega) (by omega)]
    exact eq_false (by omega)
  have pos : (nI 0 < nI (a + max m p)) = True := by
    rw [cI_lt (by omega) (by omega)]
    exact eq_true (by omega)
  rw [zn_141]
  simp (disch := first | omega | (simp only [okS_I, okS_R, okS_0]; done)) only [ze_141_0, ze_141_1, ze_141_2, ze_141_3, ze_141_6, ze_141_7, ze_141_8, ze_141_9, ze_141_10, ze_141_13, ze_141_14, ze_141_16, ze_141_19, ze_141_20, ze_141_21, ze_141_22, ze_141_26, z_k_r, z_push_s, z_push_n, okS_0, okS_I, okS_R, okS_A, List.getElem?_cons_zero, List.getElem?_cons_succ, List.length_cons, List.length_nil, List.set_cons_zero, List.set_cons_succ, true_and, and_true, z_tI, z_tB, pk_mul, nI_add, cI_cl, cI_ix, nar_0, nar_1, nar_b, Nat.reduceAdd, Nat.reduceLT, Nat.reduceMul, cI_lt, cI_eq, ↓reduceIte, if_true, if_false, Nat.lt_irrefl, eq_self, Nat.reduceEqDiff, or_true, true_or, or_false, false_or, not_false_eq_true, not_true_eq_false, ce_5, zb_t, zb_f]
  rw [mx]
  simp only [nI_add, big, pos, if_true, if_false]
theorem j_newCap (h : F b = some (sbF v n)) (hv : F v = some (byA cap u)) {m : Nat} (hd : 0 < d) (hm : cap < m) (hm2 : m ≤ 400) (h0 : 1 ≤ cap) : z_Ca g d 110 [.ref b, .int (nI m)] (F, q) P = P (.inr (some (.int (nI (cap + max (m - cap) (cap + 2))))), (F, q)) := by
  have nl := fun P => j_newL (g := g) (d := d - 1) (F := F) (q := q) (P := P) (a := cap) (m := m - cap) (p := cap + 2) (by omega) (by omega) (by omega) h0
  have big : (nI (cap + max (m - cap) (cap + 2)) = (2147483647 : Int32)) = False := by
    rw [show (2147483647 : Int32) = nI 2147483647 from rfl, cI_eq (by omega) (by omega)]
    exact eq_false (by omega)
  have sb : nI m - nI cap = nI (m - cap) := cI_sub (by omega)
  rw [zn_110]
  simp (disch := omega) only [ze_110_0, ze_110_1, ze_110_4, ze_110_5, ze_110_6, ze_110_7, ze_110_8, ze_110_11, ze_110_12, ze_110_13, ze_110_14, ze_110_15, ze_110_16, ze_110_18, ze_110_19, ze_110_21, ze_110_22, ze_110_23, ze_110_24, ze_110_27, ze_110_28, ze_110_29, ze_110_32, ze_110_34, ze_110_36, ze_110_38, ze_110_44, ze_110_44_i, ze_110_51, ze_110_53, ze_110_54, ze_110_57, ze_110_58, z_k_r, z_push_s, z_push_n, okS_0, okS_I, okS_R, okS_A, List.getElem?_cons_zero, List.getElem?_cons_succ, List.length_cons, List.length_nil, List.set_cons_zero, List.set_cons_succ, true_and, and_true, z_tI, z_tB, pk_mul, nI_add, cI_cl, cI_ix, nar_0, nar_1, nar_b, Nat.reduceAdd, Nat.reduceLT, Nat.reduceMul, cI_lt, cI_eq, ↓reduceIte, if_true, if_false, Nat.lt_irrefl, eq_self, Nat.reduceEqDiff, or_true, true_or, or_false, false_or, not_false_eq_true, not_true_eq_false, ce_5, zb_t, zb_f, sb_0 h, sb_1 h, sb_N hv, sh_0, sl_0, hd, sb, ↓nl, z_kJ_r, big]
theorem j_copyOf {N x y c2 : Nat} (hv : F v = some (byA cap u)) (hN : v ≠ N) (hc : cap < c2) (hc2 : c2 ≤ 1000) (hu : ∀ j, u j < 128) (hz : ∀ j, cap ≤ j → u j = 0) : z_Ca g d 137 [.ref v, .int (nI c2)] (F, some N, x, y) P = P (.inr (some (.ref N)), (z_up F N (byA c2 u), some (N + 1), x + 1, y + c2)) := by
  have hv2 : z_up F N (.inl (.byte, c2, .inl fun _ => 0)) v = some (byA cap u) := by rw [z_up_ne hN]; exact hv
  have cp := fun q K => cP_a (q := q) (K := K) hv2 (z_up_self F N (.inl (.byte, c2, .inl fun _ => 0))) hN hu (l := cap) (Nat.le_refl _) (by omega) (by omega) hc2 hz
  have ne : ¬ c2 = cap := by omega
  have mn : (if c2 < cap then nI c2 else nI cap) = nI cap := if_neg (by omega)
  rw [zn_137]
  simp (disch := first | omega | (simp only [okS_I, okS_R, okS_0]; done)) only [ze_137_0, ze_137_1, ze_137_2, ze_137_3, ze_137_6, ze_137_7, ze_137_10, ze_137_13, ze_137_14, ze_137_15, ze_137_17, ze_137_18, ze_137_19, ze_137_20, ze_137_21, ze_137_22, ze_137_23, ze_137_24, ze_137_25, ze_137_28, ze_137_31, ze_137_32, z_k_r, z_push_s, z_push_n, okS_0, okS_I, okS_R, okS_A, List.getElem?_cons_zero, List.getElem?_cons_succ, List.length_cons, List.length_nil, List.set_cons_zero, List.set_cons_succ, true_and, and_true, z_tI, z_tB, pk_mul, nI_add, cI_cl, cI_ix, nar_0, nar_1, nar_b, Nat.reduceAdd, Nat.reduceLT, Nat.reduceMul, cI_lt, cI_eq, ↓reduceIte, if_true, if_false, Nat.lt_irrefl, eq_self, Nat.reduceEqDiff, or_true, true_or, or_false, false_or, not_false_eq_true, not_true_eq_false, ce_5, zb_t, zb_f, sb_N hv, ne, nA_b, sb_N hv2, mn, cp, z_up_up]
def SBe (D : Nat → Prop) (F : Nat → Option z_C) (N b v cap n : Nat) (u : Nat → Nat) : Prop := F b = some (sbF v n) ∧ F v = some (byA cap u) ∧ n ≤ cap ∧ 16 ≤ cap ∧ cap ≤ 500 ∧ (∀ j, u j < 128) ∧ (∀ j, n ≤ j → u j = 0) ∧ ¬ D v ∧ ¬ D b ∧ v ≠ b ∧ v < N ∧ b < N
def SBX (D : Nat → Prop) (F : Nat → Option z_C) (N b n : Nat) (u : Nat → Nat) : Prop := ∃ v cap, SBe D F N b v cap n u
theorem j_ens {D : Nat → Prop} {N x y m : Nat} (h : SBe D F N b v cap n u) (hD : ∀ z, D z → z < N) (hd : 2 < d) (hm : m ≤ 240) : ∃ F' N' x' y' v' cap', SBe D F' N' b v' cap' n u ∧ m ≤ cap' ∧ (∀ z, D z → F' z = F z) ∧ N ≤ N' ∧ x' ≤ x + 1 ∧ y' ≤ y + 500 ∧ ∀ P : z_Res → Prop, z_Ca g d 109 [.ref b, .int (nI m)] (F, some N, x, y) P = P (.inr none, (F', some N', x', y')) := by
  obtain ⟨h1, h2, h3, h4, h5, h6, h7, h8, h9, h10, h11, h12⟩ := h
  have hd0 : 0 < d := by omega
  have sp := sub_pos (a := m) (b := cap) (by omega) (by omega)
  by_cases z : cap < m
  · obtain ⟨c2, hc2⟩ : ∃ c2, c2 = cap + max (m - cap) (cap + 2) := ⟨_, rfl⟩
    have nc := fun q P => j_newCap (g := g) (d := d - 1) (q := q) (P := P) h1 h2 (m := m) (by omega) z (by omega) (by omega)
    rw [← hc2] at nc
    have co := fun P => j_copyOf (g := g) (d := d - 1) (x := x) (y := y) (P := P) (c2 := c2) h2 (by omega : v ≠ N) (by omega) (by omega) h6 (fun j hj => h7 j (by omega))
    have hb2 : z_up F N (byA c2 u) b = some (sbF v n) := by rw [z_up_ne (by omega)]; exact h1
    refine ⟨z_up (z_up F N (byA c2 u)) b (sbF N n), N + 1, x + 1, y + c2, N, c2, ⟨z_up_self _ _ _, by rw [z_up_ne (by omega)]; exact z_up_self _ _ _, by omega, by omega, by omega, h6, h7, fun w => absurd (hD _ w) (Nat.lt_irrefl _), h9, by omega, by omega, by omega⟩, by omega, fun w hw => ?_, by omega, by omega, by omega, fun P => ?_⟩
    · have := hD w hw
      have wb : w ≠ b := fun e => h9 (e ▸ hw)
      rw [z_up_ne wb, z_up_ne (by omega)]
    · rw [zn_109]
      simp (disch := omega) only [ze_109_0, ze_109_1, ze_109_4, ze_109_5, ze_109_6, ze_109_9, ze_109_10, ze_109_11, ze_109_12, ze_109_13, ze_109_14, ze_109_17, ze_109_18, ze_109_19, ze_109_22, ze_109_23, ze_109_24, ze_109_27, ze_109_28, ze_109_31, ze_109_32, ze_109_35, ze_109_38, z_k_r, z_push_s, z_push_n, okS_0, okS_I, okS_R, okS_A, List.getElem?_cons_zero, List.getElem?_cons_succ, List.length_cons, List.length_nil, List.set_cons_zero, List.set_cons_succ, true_and, and_true, z_tI, z_tB, pk_mul, nI_add, cI_cl, cI_ix, nar_0, nar_1, nar_b, Nat.reduceAdd, Nat.reduceLT, Nat.reduceMul, cI_lt, cI_eq, ↓reduceIte, if_true, if_false, Nat.lt_irrefl, eq_self, Nat.reduceEqDiff, or_true, true_or, or_false, false_or, not_false_eq_true, not_true_eq_false, ce_5, zb_t, zb_f, sb_0 h1, sb_1 h1, sb_N h2, sh_0, sl_0, sp, z, sb_O h1, hd0, ↓nc, ↓co, z_kJ_r, sb_p0 hb2]
  · refine ⟨F, N, x, y, v, cap, ⟨h1, h2, h3, h4, h5, h6, h7, h8, h9, h10, h11, h12⟩, by omega, fun _ _ => rfl, Nat.le_refl _, by omega, by omega, fun P => ?_⟩
    rw [zn_109]
    simp (disch := omega) only [ze_109_0, ze_109_1, ze_109_4, ze_109_5, ze_109_6, ze_109_9, ze_109_10, ze_109_11, ze_109_12, ze_109_13, ze_109_14, ze_109_17, ze_109_18, ze_109_19, ze_109_22, ze_109_23, ze_109_24, ze_109_27, ze_109_28, ze_109_31, ze_109_32, ze_109_35, ze_109_38, z_k_r, z_push_s, z_push_n, okS_0, okS_I, okS_R, okS_A, List.getElem?_cons_zero, List.getElem?_cons_succ, List.length_cons, List.length_nil, List.set_cons_zero, List.set_cons_succ, true_and, and_true, z_tI, z_tB, pk_mul, nI_add, cI_cl, cI_ix, nar_0, nar_1, nar_b, Nat.reduceAdd, Nat.reduceLT, Nat.reduceMul, cI_lt, cI_eq, ↓reduceIte, if_true, if_false, Nat.lt_irrefl, eq_self, Nat.reduceEqDiff, or_true, true_or, or_false, false_or, not_false_eq_true, not_true_eq_false, ce_5, zb_t, zb_f, sb_0 h1, sb_1 h1, sb_N h2, sh_0, sl_0, sp, z]
theorem j_enc {c : Nat} (hc : c < 128) : z_Ca g d 136 [.int (nI c)] (F, q) P = P (.inr (some (.int (nI 1))), (F, q)) := by
  have n : ¬ 255 < c := by omega
  rw [zn_136]
  simp (disch := omega) only [ze_136_0, ze_136_1, ze_136_4, ze_136_7, ze_136_8, ze_136_11, ze_136_12, z_k_r, z_push_s, z_push_n, okS_0, okS_I, okS_R, okS_A, List.getElem?_cons_zero, List.getElem?_cons_succ, List.length_cons, List.length_nil, List.set_cons_zero, List.set_cons_succ, true_and, and_true, z_tI, z_tB, pk_mul, nI_add, cI_cl, cI_ix, nar_0, nar_1, nar_b, Nat.reduceAdd, Nat.reduceLT, Nat.reduceMul, cI_lt, cI_eq, ↓reduceIte, if_true, if_false, Nat.lt_irrefl, eq_self, Nat.reduceEqDiff, or_true, true_or, or_false, false_or, not_false_eq_true, not_true_eq_false, ce_5, zb_t, zb_f, n]
theorem SBe.put {D : Nat → Prop} {N c : Nat} (h : SBe D F N b v cap n u) (hn : n < cap) (hc : c < 128) : SBX D (z_up (z_up F b (sbF v (n + 1))) v (byA cap (nu u n c))) N b (n + 1) (nu u n c) ∧ (∀ z, D z → z_up (z_up F b (sbF v (n + 1))) v (byA cap (nu u n c)) z = F z) := by
  obtain ⟨h1, h2, h3, h4, h5, h6, h7, h8, h9, h10, h11, h12⟩ := h
  refine ⟨⟨v, cap, by rw [z_up_ne (fun e => h10 e.symm)]; exact z_up_self _ _ _, z_up_self _ _ _, by omega, h4, h5, fun j => ?_, fun j hj => by rw [nu_n (by omega)]; exact h7 j (by omega), h8, h9, h10, h11, h12⟩, fun z hz => ?_⟩
  · by_cases e : j = n
    · rw [e, nu_s]; exact hc
    · rw [nu_n e]; exact h6 j
  · have wv : z ≠ v := fun e => h8 (e ▸ hz)
    have wb : z ≠ b := fun e => h9 (e ▸ hz)
    rw [z_up_ne wv, z_up_ne wb]
theorem sb_chr {D : Nat → Prop} {N x y c : Nat} (h : SBX D F N b n u) (hD : ∀ z, D z → z < N) (hd : 5 < d) (hn : n < 240) (hc : c < 128) : ∃ F' N' x' y', SBX D F' N' b (n + 1) (nu u n c) ∧ (∀ z, D z → F' z = F z) ∧ N ≤ N' ∧ x' ≤ x + 1 ∧ y' ≤ y + 500 ∧ ∀ P : z_Res → Prop, z_Ca g d 131 [.ref b, .int (nI c)] (F, some N, x, y) P = P (.inr (some (.ref b)), (F', some N', x', y')) := by
  obtain ⟨v, cap, h⟩ := h
  obtain ⟨F1, N1, x1, y1, v1, cap1, e1, e2, e3, e4, e5, e6, e7⟩ := j_ens (g := g) (d := d - 1 - 1) (x := x) (y := y) (m := n + 1) h hD (by omega) (by omega)
  obtain ⟨p1, p2⟩ := e1.put (by omega) hc
  obtain ⟨k1, k2, -, -, k5, -⟩ := e1
  have k10 : v1 ≠ b := p1.elim fun _ _ => by
    intro w
    subst w
    rw [k1] at k2
    cases k2
  have hd0 : 0 < d := by omega
  have hd1 : 0 < d - 1 := by omega
  have hO := sb_O h.1
  have h1 := h.1
  have il := fun P => j_isL (g := g) (d := d - 1 - 1) (q := (some N1, x1, y1)) (P := P) k1
  have en := fun q P => j_enc (g := g) (d := d - 1 - 1) (F := F1) (q := q) (P := P) hc
  have i2 : ((nI c).toInt8).toInt32 = nI c := nar_s c hc
  have v2 : z_up F1 b (sbF v1 (n + 1)) v1 = some (byA cap1 u) := by rw [z_up_ne k10]; exact k2
  refine ⟨_, N1, x1, y1, p1, fun z hz => by rw [p2 z hz, e3 z hz], e4, e5, e6, fun P => ?_⟩
  have in1 : ∀ P : z_Res → Prop, z_Ca g (d - 1) 112 [.ref b, .int (nI c)] (F, some N, x, y) P = P (.inr (some (.ref b)), (z_up (z_up F1 b (sbF v1 (n + 1))) v1 (byA cap1 (nu u n c)), some N1, x1, y1)) := fun P => by
    rw [zn_112]
    simp (disch := omega) only [ze_112_0, ze_112_1, ze_112_2, ze_112_5, ze_112_6, ze_112_7, ze_112_10, ze_112_11, ze_112_14, ze_112_17, ze_112_18, ze_112_21, ze_112_24, ze_112_25, ze_112_28, ze_112_29, ze_112_29_i, ze_112_30, ze_112_33, ze_112_34, ze_112_35, ze_112_36, ze_112_39, ze_112_40, ze_112_41, ze_112_42, ze_112_45, ze_112_46, ze_112_49, ze_112_52, ze_112_56, ze_112_57, ze_112_60, ze_112_61, ze_112_61_i, ze_112_62, ze_112_65, ze_112_66, ze_112_67, ze_112_68, ze_112_71, ze_112_75, ze_112_76, z_k_r, z_push_s, z_push_n, okS_0, okS_I, okS_R, okS_A, List.getElem?_cons_zero, List.getElem?_cons_succ, List.length_cons, List.length_nil, List.set_cons_zero, List.set_cons_succ, true_and, and_true, z_tI, z_tB, pk_mul, nI_add, cI_cl, cI_ix, nar_0, nar_1, nar_b, Nat.reduceAdd, Nat.reduceLT, Nat.reduceMul, cI_lt, cI_eq, ↓reduceIte, if_true, if_false, Nat.lt_irrefl, eq_self, Nat.reduceEqDiff, or_true, true_or, or_false, false_or, not_false_eq_true, not_true_eq_false, ce_5, zb_t, zb_f, sb_3 h1, hO, hd1, ↓e7, z_kJ_r, sb_O k1, ↓il, ↓en, sb_0 k1, sb_3 k1, sb_p3 k1, i2, by_S v2]
  rw [zn_131]
  simp (disch := omega) only [ze_131_0, ze_131_1, ze_131_2, ze_131_5_i, ze_131_5, ze_131_6, ze_131_7, z_k_r, z_push_s, z_push_n, okS_0, okS_I, okS_R, okS_A, List.getElem?_cons_zero, List.getElem?_cons_succ, List.length_cons, List.length_nil, List.set_cons_zero, List.set_cons_succ, true_and, and_true, z_tI, z_tB, pk_mul, nI_add, cI_cl, cI_ix, nar_0, nar_1, nar_b, Nat.reduceAdd, Nat.reduceLT, Nat.reduceMul, cI_lt, cI_eq, ↓reduceIte, if_true, if_false, Nat.lt_irrefl, eq_self, Nat.reduceEqDiff, or_true, true_or, or_false, false_or, not_false_eq_true, not_true_eq_false, ce_5, zb_t, zb_f, hO, hd0, ↓in1, z_kJ_r]
end
