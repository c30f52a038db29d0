/-! the symbol by its uses -/
section
theorem kf_at {p : Nat → Bool} {X : Nat} (hX : X < 2147483648) : ∀ (m i k n : Nat), n + ct p i m = X → p (i + m) = true → m < k → kf p (nI X) i k n = some (i + m)
  | m, i, 0, n, h1, h2, h3 => absurd h3 (by omega)
  | 0, i, k + 1, n, h1, h2, h3 => by
    rw [ct_z, Nat.add_zero] at h1
    rw [Nat.add_zero] at h2
    rw [kf_t h2, h1, if_pos rfl]
    rfl
  | m + 1, i, k + 1, n, h1, h2, h3 => by
    rw [ct_s] at h1
    cases e : p i
    · rw [e, Bool.toNat_false, Nat.zero_add] at h1
      rw [kf_f e, kf_at hX m (i + 1) k n h1 (by rw [show i + 1 + m = i + (m + 1) by omega]; exact h2) (by omega), show i + 1 + m = i + (m + 1) by omega]
    · rw [e, Bool.toNat_true] at h1
      have : ¬ nI X = nI n := by
        rw [cI_eq hX (by omega)]
        omega
      rw [kf_t e, if_neg this, kf_at hX m (i + 1) k (n + 1) (by omega) (by rw [show i + 1 + m = i + (m + 1) by omega]; exact h2) (by omega), show i + 1 + m = i + (m + 1) by omega]
theorem kf_ct {p : Nat → Bool} {X : Nat} (hX : X < 2147483648) : ∀ (k i n j : Nat), n ≤ X → kf p (nI X) i k n = some j → n + ct p i (j - i) = X
  | 0, i, n, j, hn, h => by cases h
  | k + 1, i, n, j, hn, h => by
    cases e : p i
    · rw [kf_f e] at h
      have := kf_ct hX k (i + 1) n j hn h
      obtain ⟨-, h2, h3⟩ := kf_p _ _ _ _ h
      rw [show j - i = (j - (i + 1)) + 1 by omega, ct_s, e, Bool.toNat_false, Nat.zero_add]
      exact this
    · rw [kf_t e] at h
      by_cases e2 : nI X = nI n
      · rw [if_pos e2] at h
        rw [cI_eq hX (by omega)] at e2
        cases h
        rw [Nat.sub_self, ct_z]
        omega
      · rw [if_neg e2] at h
        have e3 : X ≠ n := fun z => e2 (by rw [z])
        have := kf_ct hX k (i + 1) (n + 1) j (by omega) h
        obtain ⟨-, h2, h3⟩ := kf_p _ _ _ _ h
        rw [show j - i = (j - (i + 1)) + 1 by omega, ct_s, e, Bool.toNat_true]
        omega
theorem ct_or {p q r : Nat → Bool} : ∀ (k i : Nat), (∀ j, i ≤ j → j < i + k → (r j).toNat = (p j).toNat + (q j).toNat) → ct r i k = ct p i k + ct q i k
  | 0, i, h => rfl
  | k + 1, i, h => by
    rw [ct_s, ct_s, ct_s, h i (by omega) (by omega), ct_or k (i + 1) fun j h1 h2 => h j (by omega) (by omega)]
    omega
/-- the symbols by falling use, k steps from use k - 1 down -/
def uf (u : Nat → Nat) (C X : Nat) : Nat → Nat → Option Nat
  | 0, _ => none
  | k + 1, n => match kf (fun t => decide (u t = k)) (nI X) 0 C n with
    | some i => some i
    | none => uf u C X k (n + ct (fun t => decide (u t = k)) 0 C)
theorem uf_at {u : Nat → Nat} {C X s : Nat} (hX : X < 2147483648) (hs : s < C) : ∀ (k n : Nat), u s < k → n + ct (fun t => decide (u s < u t ∧ u t < k)) 0 C + ct (fun t => decide (u t = u s)) 0 s = X → uf u C X k n = some s
  | 0, n, h, _ => absurd h (by omega)
  | k + 1, n, h, h2 => by
    unfold uf
    by_cases e : u s = k
    · rw [ct_zero (p := fun t => decide (u s < u t ∧ u t < k + 1)) C 0 (fun j _ _ => decide_eq_false (by omega)), Nat.add_zero] at h2
      rw [kf_at hX s 0 C n (by rw [← h2, e]) (by rw [Nat.zero_add]; exact decide_eq_true e) hs, Nat.zero_add]
    · have o := ct_or (r := fun t => decide (u s < u t ∧ u t < k + 1)) (p := fun t => decide (u s < u t ∧ u t < k)) (q := fun t => decide (u t = k)) C 0 (fun j _ _ => by
        by_cases e1 : u j = k
        · rw [decide_eq_true (p := u j = k) e1, decide_eq_true (by omega), decide_eq_false (by omega)]
          rfl
        · rw [decide_eq_false (p := u j = k) e1]
          by_cases e2 : u s < u j ∧ u j < k
          · rw [decide_eq_true e2, decide_eq_true (by omega)]
            rfl
          · rw [decide_eq_false e2, decide_eq_false (by omega)]
            rfl)
      rw [o] at h2
      rw [(kf_iff hX C 0 n (by omega)).mpr (by omega)]
      exact uf_at hX hs k _ (by omega) (by omega)
theorem uf_ok {u : Nat → Nat} {C X s : Nat} (hX : X < 2147483648) : ∀ (k n : Nat), n ≤ X → uf u C X k n = some s → s < C ∧ u s < k ∧ n + ct (fun t => decide (u s < u t ∧ u t < k)) 0 C + ct (fun t => decide (u t = u s)) 0 s = X
  | 0, n, _, h => by cases h
  | k + 1, n, hn, h => by
    unfold uf at h
    cases e : kf (fun t => decide (u t = k)) (nI X) 0 C n with
    | some i =>
      rw [e] at h
      cases h
      obtain ⟨h1, h2, h3⟩ := kf_p _ _ _ _ e
      have h4 := kf_ct hX _ _ _ _ hn e
      have h1 := of_decide_eq_true h1
      refine ⟨by omega, by omega, ?_⟩
      rw [ct_zero (p := fun t => decide (u s < u t ∧ u t < k + 1)) C 0 (fun j _ _ => decide_eq_false (by omega)), Nat.add_zero, h1]
      rw [Nat.sub_zero] at h4
      exact h4
    | none =>
      rw [e] at h
      have h1 := (kf_iff hX C 0 n hn).mp e
      obtain ⟨h2, h3, h4⟩ := uf_ok hX k _ h1 h
      refine ⟨h2, by omega, ?_⟩
      have o := ct_or (r := fun t => decide (u s < u t ∧ u t < k + 1)) (p := fun t => decide (u s < u t ∧ u t < k)) (q := fun t => decide (u t = k)) C 0 (fun j _ _ => by
        by_cases e1 : u j = k
        · rw [decide_eq_true (p := u j = k) e1, decide_eq_true (by omega), decide_eq_false (by omega)]
          rfl
        · rw [decide_eq_false (p := u j = k) e1]
          by_cases e2 : u s < u j ∧ u j < k
          · rw [decide_eq_true e2, decide_eq_true (by omega)]
            rfl
          · rw [decide_eq_false e2, decide_eq_false (by omega)]
            rfl)
      omega
theorem uf_none {u : Nat → Nat} {C X : Nat} (hX : X < 2147483648) : ∀ (k n : Nat), n ≤ X → uf u C X k n = none → n + ct (fun t => decide (u t < k)) 0 C ≤ X
  | 0, n, hn, _ => by
    rw [ct_zero C 0 (fun j _ _ => decide_eq_false (by omega))]
    exact hn
  | k + 1, n, hn, h => by
    unfold uf at h
    cases e : kf (fun t => decide (u t = k)) (nI X) 0 C n with
    | some i =>
      rw [e] at h
      cases h
    | none =>
      rw [e] at h
      have h1 := (kf_iff hX C 0 n hn).mp e
      have h2 := uf_none hX k _ h1 h
      have o := ct_or (r := fun t => decide (u t < k + 1)) (p := fun t => decide (u t < k)) (q := fun t => decide (u t = k)) C 0 (fun j _ _ => by
        by_cases e1 : u j = k
        · rw [decide_eq_true (p := u j = k) e1, decide_eq_true (by omega), decide_eq_false (by omega)]
          rfl
        · rw [decide_eq_false (p := u j = k) e1]
          by_cases e2 : u j < k
          · rw [decide_eq_true e2, decide_eq_true (by omega)]
            rfl
          · rw [decide_eq_false e2, decide_eq_false (by omega)]
            rfl)
      omega
theorem ct_all {p : Nat → Bool} : ∀ (k i : Nat), (∀ j, i ≤ j → j < i + k → p j = true) → ct p i k = k
  | 0, i, h => rfl
  | k + 1, i, h => by
    rw [ct_s, h i (by omega) (by omega), ct_all k (i + 1) fun j h1 h2 => h j (by omega) (by omega), Bool.toNat_true]
    omega
theorem ct_one {p : Nat → Bool} : ∀ (k i : Nat), (∀ j j', i ≤ j → j < i + k → i ≤ j' → j' < i + k → p j = true → p j' = true → j = j') → ct p i k ≤ 1
  | 0, i, h => by rw [ct_z]; omega
  | k + 1, i, h => by
    rw [ct_s]
    have := ct_one k (i + 1) fun j j' h1 h2 h3 h4 => h j j' (by omega) (by omega) (by omega) (by omega)
    cases e : p i
    · rw [Bool.toNat_false]
      omega
    · rw [ct_zero k (i + 1), Bool.toNat_true]
      · omega
      · intro j h1 h2
        cases e2 : p j
        · rfl
        · have := h i j (by omega) (by omega) (by omega) (by omega) e e2
          exact absurd this (by omega)
def rnk (u : Nat → Nat) (C s : Nat) : Nat := ct (fun t => decide (u s < u t ∨ u t = u s ∧ t < s)) 0 C
theorem rnk_eq {u : Nat → Nat} {C s M : Nat} (hs : s < C) (hu : ∀ t, t < C → u t < M) : rnk u C s = ct (fun t => decide (u s < u t ∧ u t < M)) 0 C + ct (fun t => decide (u t = u s)) 0 s := by
  unfold rnk
  have o := ct_or (r := fun t => decide (u s < u t ∨ u t = u s ∧ t < s)) (p := fun t => decide (u s < u t ∧ u t < M)) (q := fun t => decide (u t = u s ∧ t < s)) C 0 (fun j _ hj => by
    have := hu j (by omega)
    by_cases e1 : u j = u s ∧ j < s
    · rw [decide_eq_true e1, decide_eq_true (by omega), decide_eq_false (by omega)]
      rfl
    · rw [decide_eq_false e1]
      by_cases e2 : u s < u j
      · rw [decide_eq_true (by omega), decide_eq_true (by omega)]
        rfl
      · rw [decide_eq_false (by omega), decide_eq_false (by omega)]
        rfl)
  rw [o]
  have sp := ct_split (fun t => decide (u t = u s ∧ t < s)) s (C - s) 0
  rw [show s + (C - s) = C by omega] at sp
  rw [sp, ct_zero (C - s), Nat.add_zero]
  · rw [ct_congr (p := fun t => decide (u t = u s ∧ t < s)) (q := fun t => decide (u t = u s)) s 0]
    intro j _ h2
    by_cases e : u j = u s
    · rw [decide_eq_true e, decide_eq_true (by omega)]
    · rw [decide_eq_false e, decide_eq_false (by omega)]
  · intro j h1 h2
    exact decide_eq_false (by omega)
theorem rnk_lt {u : Nat → Nat} {C s : Nat} (hs : s < C) : rnk u C s < C := by
  unfold rnk
  have s1 := ct_split (fun t => decide (u s < u t ∨ u t = u s ∧ t < s)) s ((C - s - 1) + 1) 0
  rw [show s + ((C - s - 1) + 1) = C by omega, ct_s, decide_eq_false (p := u s < u (0 + s) ∨ u (0 + s) = u s ∧ 0 + s < s) (by rw [Nat.zero_add]; omega), Bool.toNat_false] at s1
  have a := ct_le (fun t => decide (u s < u t ∨ u t = u s ∧ t < s)) s 0
  have b := ct_le (fun t => decide (u s < u t ∨ u t = u s ∧ t < s)) (C - s - 1) (0 + s + 1)
  omega
theorem uf_rnk {u : Nat → Nat} {C X M : Nat} (hX : X < C) (hC : C < 1000) (hu : ∀ t, t < C → u t < M) : uf u C X M 0 = kf (fun s => decide (nI (rnk u C s) = nI X)) (nI 0) 0 C 0 := by
  have hX2 : X < 2147483648 := by omega
  cases e : kf (fun s => decide (nI (rnk u C s) = nI X)) (nI 0) 0 C 0 with
  | some s =>
    obtain ⟨h1, h2, h3⟩ := kf_p _ _ _ _ e
    have h1 := of_decide_eq_true h1
    have hs : s < C := by omega
    have := rnk_lt (u := u) hs
    rw [cI_eq (by omega) (by omega), rnk_eq hs hu] at h1
    exact uf_at hX2 hs M 0 (hu s hs) (by omega)
  | none =>
    cases e2 : uf u C X M 0 with
    | none =>
      have := uf_none hX2 M 0 (by omega) e2
      rw [ct_all C 0 fun j _ h2 => decide_eq_true (hu j (by omega))] at this
    | some s =>
      obtain ⟨h1, h2, h3⟩ := uf_ok hX2 M 0 (by omega) e2
      rw [Nat.zero_add, ← rnk_eq h1 hu] at h3
      have h4 := (kf_iff (by omega) C 0 0 (by omega)).mp e
      have h5 := ct_split (fun s => decide (nI (rnk u C s) = nI X)) s ((C - s - 1) + 1) 0
      rw [show s + ((C - s - 1) + 1) = C by omega, ct_s, decide_eq_true (p := nI (rnk u C (0 + s)) = nI X) (by rw [Nat.zero_add, h3]), Bool.toNat_true] at h5
      omega
end
section
variable {g : z_G} {d : Nat} {f : Nat → Option z_C} {fr : Option Int32 → (Nat → GS) → (Nat → Int32) → (Nat → Nat → Int32) → Nat → Option z_C} {q : Option Nat × Nat × Nat} {P : z_Res → Prop} {B m : Nat} {G : Nat → GS} {I I' : Nat → Int32} {A A' : Nat → Nat → Int32} {J J' : Nat → Int32} {K K' : Nat → Nat → Int32} {S : GS}
def GS.u (S : GS) (s : Nat) : Nat := us S.c S.R S.C s
theorem u_le (hg : GI S) {s : Nat} (hs : s < 5) : S.u s ≤ S.R := by
  have hC := hg.C5
  have hR := hg.RC
  have := sm_le (p := usR S.c S.C s) (m := 1) S.R 0 fun r _ hr => by
    unfold usR
    refine ct_one _ _ fun j j' _ h1 _ h2 h3 h4 => ?_
    have h3 := of_decide_eq_true h3
    have h4 := of_decide_eq_true h4
    exact hg.row r j j' (by omega) (by omega) (by omega) (by omega) (by omega)
  unfold GS.u us
  omega
theorem x_sbu1 (hg : GI (G 1)) (hd : 0 < d) {X v : Nat} (hX : X < 2147483648) (hv : v < 10) {y : Int32} {E : Nat → Prop} (hO : ∀ n, n ≤ X → z_T g d 91 75 [.ref B, .int y, .int (nI X - nI n), .int (nI v), .int (nI (G 1).C)] [] (xw f B G I A, q) P = E n) : ∀ (k j n : Nat), j + k = (G 1).C → n ≤ X → z_T g d 91 34 [.ref B, .int y, .int (nI X - nI n), .int (nI v), .int (nI j)] [] (xw f B G I A, q) P = oe (kf (fun t => decide ((G 1).u t = v)) (nI X) j k n) (fun i => P (.inr (some (.int (nI i))), (xw f B G I A, q))) (E (n + ct (fun t => decide ((G 1).u t = v)) j k))
  | 0, j, n, h, ht => by
    have : j = (G 1).C := by omega
    subst this
    have hC := hg.C5
    have hR := hg.RC
    rw [ze_91_34]
    simp (disch := omega) only [ze_91_0, ze_91_1, ze_91_4, ze_91_5, ze_91_6, ze_91_9, ze_91_12, ze_91_15, ze_91_16, ze_91_17, ze_91_18, ze_91_19, ze_91_20, ze_91_23, ze_91_26, ze_91_27, ze_91_28, ze_91_31, ze_91_32, ze_91_36, ze_91_37, ze_91_40, ze_91_43, ze_91_46, ze_91_47, ze_91_50, ze_91_52, ze_91_55, ze_91_56, ze_91_59, ze_91_60, ze_91_63, ze_91_65, ze_91_66, ze_91_69, ze_91_72, ze_91_78, ze_91_81, ze_91_82, z_k_r, z_push_s, z_push_n, okS_0, okS_I, okS_R, okS_A, List.getElem?_cons_zero, List.getElem?_cons_succ, List.length_cons, List.length_nil, List.set_cons_zero, List.set_cons_succ, true_and, and_true, z_tI, z_tB, pk_mul, nI_add, cI_cl, cI_ix, nar_0, nar_1, nar_b, Nat.reduceAdd, Nat.reduceLT, Nat.reduceMul, ↓xr_0_0_q, xr_0_0, ↓xr_0_1_q, xr_0_1, ↓xr_0_2_q, xr_0_2, ↓xr_0_3_q, xr_0_3, ↓xr_0_4_q, xr_0_4, ↓xr_0_5_q, xr_0_5, ↓xr_0_6_q, xr_0_6, ↓xr_0_7_q, xr_0_7, ↓xr_0_8_q, xr_0_8, ↓xr_0_9_q, xr_0_9, ↓xg_14_q, xg_14, ↓xp_14_q, xp_14, ↓xr_7_0_q, xr_7_0, ↓xg_0_q, xg_0, ↓xp_0_q, xp_0, ↓xg_1_q, xg_1, ↓xp_1_q, xp_1, ↓xg_2_q, xg_2, ↓xp_2_q, xp_2, ↓xg_3_q, xg_3, ↓xp_3_q, xp_3, ↓xg_4_q, xg_4, ↓xp_4_q, xp_4, ↓xg_5_q, xg_5, ↓xp_5_q, xp_5, ↓xr_9_0_q, xr_9_0, ↓xr_9_1_q, xr_9_1, ↓xg_6_q, xg_6, ↓xp_6_q, xp_6, ↓xg_7_q, xg_7, ↓xp_7_q, xp_7, ↓xr_16_0_q, xr_16_0, ↓xr_17_0_q, xr_17_0, ↓xr_17_1_q, xr_17_1, ↓xr_17_2_q, xr_17_2, ↓xg_8_q, xg_8, ↓xp_8_q, xp_8, ↓xr_25_0_q, xr_25_0, ↓xr_25_1_q, xr_25_1, ↓xg_9_q, xg_9, ↓xp_9_q, xp_9, ↓xg_10_q, xg_10, ↓xp_10_q, xp_10, ↓xr_27_0_q, xr_27_0, ↓xr_27_1_q, xr_27_1, ↓xg_11_q, xg_11, ↓xp_11_q, xp_11, ↓xr_29_0_q, xr_29_0, ↓xg_12_q, xg_12, ↓xp_12_q, xp_12, ↓xg_13_q, xg_13, ↓xp_13_q, xp_13, ↓xr_41_0_q, xr_41_0, ↓xr_41_1_q, xr_41_1, ↓xL_8_q, xL_8, ↓xS_8_q, xS_8, ↓xL_24_q, xL_24, ↓xS_24_q, xS_24, ↓xL_26_q, xL_26, ↓xS_26_q, xS_26, ↓xL_28_q, xL_28, ↓xS_28_q, xS_28, ↓xL_31_q, xL_31, ↓xS_31_q, xS_31, ↓xL_32_q, xL_32, ↓xS_32_q, xS_32, ↓xL_33_q, xL_33, ↓xS_33_q, xS_33, ↓xL_34_q, xL_34, ↓xS_34_q, xS_34, ↓xL_35_q, xL_35, ↓xS_35_q, xS_35, ↓xL_36_q, xL_36, ↓xS_36_q, xS_36, ↓xL_37_q, xL_37, ↓xS_37_q, xS_37, ↓xL_38_q, xL_38, ↓xS_38_q, xS_38, ↓xL_39_q, xL_39, ↓xS_39_q, xS_39, ↓xL_40_q, xL_40, ↓xS_40_q, xS_40, ↓xL_43_q, xL_43, ↓xS_43_q, xS_43, ↓xL_44_q, xL_44, ↓xS_44_q, xS_44, ↓xL_45_q, xL_45, ↓xS_45_q, xS_45, ↓xL_46_q, xL_46, ↓xS_46_q, xS_46, ↓xq_30_q, xq_30, ↓xq_42_q, xq_42, ↓xr_1_0_q, xr_1_0, ↓xr_1_1_q, xr_1_1, ↓xr_1_2_q, xr_1_2, ↓xr_1_3_q, xr_1_3, ↓xr_1_4_q, xr_1_4, ↓xh_1_0_q, xh_1_0, ↓xh_1_1_q, xh_1_1, ↓xh_1_2_q, xh_1_2, ↓xh_1_3_q, xh_1_3, ↓xh_1_4_q, xh_1_4, ↓xL_2_q, xL_2, ↓xL_3_q, xL_3, ↓xL_4_q, xL_4, ↓xL_5_q, xL_5, ↓xL_6_q, xL_6, ↓xr_10_0_q, xr_10_0, ↓xr_10_1_q, xr_10_1, ↓xr_10_2_q, xr_10_2, ↓xr_10_3_q, xr_10_3, ↓xr_10_4_q, xr_10_4, ↓xh_10_0_q, xh_10_0, ↓xh_10_1_q, xh_10_1, ↓xh_10_2_q, xh_10_2, ↓xh_10_3_q, xh_10_3, ↓xh_10_4_q, xh_10_4, ↓xL_11_q, xL_11, ↓xL_12_q, xL_12, ↓xL_13_q, xL_13, ↓xL_14_q, xL_14, ↓xL_15_q, xL_15, ↓xr_18_0_q, xr_18_0, ↓xr_18_1_q, xr_18_1, ↓xr_18_2_q, xr_18_2, ↓xr_18_3_q, xr_18_3, ↓xr_18_4_q, xr_18_4, ↓xh_18_0_q, xh_18_0, ↓xh_18_1_q, xh_18_1, ↓xh_18_2_q, xh_18_2, ↓xh_18_3_q, xh_18_3, ↓xh_18_4_q, xh_18_4, ↓xL_19_q, xL_19, ↓xL_20_q, xL_20, ↓xL_21_q, xL_21, ↓xL_22_q, xL_22, ↓xL_23_q, xL_23, xo_0, xo_7, xo_9, xo_16, xo_17, xo_25, xo_27, xo_29, xo_41, xo_1, xo_10, xo_18, uA_s, uA_n, uG_s, uG_n, ne_eq, Nat.reduceEqDiff, not_false_eq_true, cI_lt, cI_eq, ↓reduceIte, if_true, if_false, Nat.lt_irrefl, eq_self, Nat.reduceEqDiff, or_true, true_or, or_false, false_or, not_false_eq_true, not_true_eq_false, ce_5, zb_t, zb_f, hO _ ht]
    rfl
  | k + 1, j, n, h, ht => by
    have hC := hg.C5
    have hR := hg.RC
    have hj : j < (G 1).C := by omega
    have hx : ∀ k, (ce ((G 1).c k) = nI j) = ((G 1).c k = j) := fun k => ce_eqI (hg.c5 k) (by omega)
    have hn : ¬ nI j < nI 0 := by rw [cI_lt (by omega) (by omega)]; omega
    have hu := u_le hg (s := j) (by omega)
    have xu := fun P => x_uses (g := g) (d := d - 1) (f := f) (q := q) (P := P) (B := B) (I := I) (A := A) hg hx hn
    rw [show us (G 1).c (G 1).R (G 1).C j = (G 1).u j from rfl] at xu
    rw [ze_91_34, ct_s]
    simp (disch := omega) only [ze_91_0, ze_91_1, ze_91_4, ze_91_5, ze_91_6, ze_91_9, ze_91_12, ze_91_15, ze_91_16, ze_91_17, ze_91_18, ze_91_19, ze_91_20, ze_91_23, ze_91_26, ze_91_27, ze_91_28, ze_91_31, ze_91_32, ze_91_36, ze_91_37, ze_91_40, ze_91_43, ze_91_46, ze_91_47, ze_91_50, ze_91_52, ze_91_55, ze_91_56, ze_91_59, ze_91_60, ze_91_63, ze_91_65, ze_91_66, ze_91_69, ze_91_72, ze_91_78, ze_91_81, ze_91_82, z_k_r, z_push_s, z_push_n, okS_0, okS_I, okS_R, okS_A, List.getElem?_cons_zero, List.getElem?_cons_succ, List.length_cons, List.length_nil, List.set_cons_zero, List.set_cons_succ, true_and, and_true, z_tI, z_tB, pk_mul, nI_add, cI_cl, cI_ix, nar_0, nar_1, nar_b, Nat.reduceAdd, Nat.reduceLT, Nat.reduceMul, ↓xr_0_0_q, xr_0_0, ↓xr_0_1_q, xr_0_1, ↓xr_0_2_q, xr_0_2, ↓xr_0_3_q, xr_0_3, ↓xr_0_4_q, xr_0_4, ↓xr_0_5_q, xr_0_5, ↓xr_0_6_q, xr_0_6, ↓xr_0_7_q, xr_0_7, ↓xr_0_8_q, xr_0_8, ↓xr_0_9_q, xr_0_9, ↓xg_14_q, xg_14, ↓xp_14_q, xp_14, ↓xr_7_0_q, xr_7_0, ↓xg_0_q, xg_0, ↓xp_0_q, xp_0, ↓xg_1_q, xg_1, ↓xp_1_q, xp_1, ↓xg_2_q, xg_2, ↓xp_2_q, xp_2, ↓xg_3_q, xg_3, ↓xp_3_q, xp_3, ↓xg_4_q, xg_4, ↓xp_4_q, xp_4, ↓xg_5_q, xg_5, ↓xp_5_q, xp_5, ↓xr_9_0_q, xr_9_0, ↓xr_9_1_q, xr_9_1, ↓xg_6_q, xg_6, ↓xp_6_q, xp_6, ↓xg_7_q, xg_7, ↓xp_7_q, xp_7, ↓xr_16_0_q, xr_16_0, ↓xr_17_0_q, xr_17_0, ↓xr_17_1_q, xr_17_1, ↓xr_17_2_q, xr_17_2, ↓xg_8_q, xg_8, ↓xp_8_q, xp_8, ↓xr_25_0_q, xr_25_0, ↓xr_25_1_q, xr_25_1, ↓xg_9_q, xg_9, ↓xp_9_q, xp_9, ↓xg_10_q, xg_10, ↓xp_10_q, xp_10, ↓xr_27_0_q, xr_27_0, ↓xr_27_1_q, xr_27_1, ↓xg_11_q, xg_11, ↓xp_11_q, xp_11, ↓xr_29_0_q, xr_29_0, ↓xg_12_q, xg_12, ↓xp_12_q, xp_12, ↓xg_13_q, xg_13, ↓xp_13_q, xp_13, ↓xr_41_0_q, xr_41_0, ↓xr_41_1_q, xr_41_1, ↓xL_8_q, xL_8, ↓xS_8_q, xS_8, ↓xL_24_q, xL_24, ↓xS_24_q, xS_24, ↓xL_26_q, xL_26, ↓xS_26_q, xS_26, ↓xL_28_q, xL_28, ↓xS_28_q, xS_28, ↓xL_31_q, xL_31, ↓xS_31_q, xS_31, ↓xL_32_q, xL_32, ↓xS_32_q, xS_32, ↓xL_33_q, xL_33, ↓xS_33_q, xS_33, ↓xL_34_q, xL_34, ↓xS_34_q, xS_34, ↓xL_35_q, xL_35, ↓xS_35_q, xS_35, ↓xL_36_q, xL_36, ↓xS_36_q, xS_36, ↓xL_37_q, xL_37, ↓xS_37_q, xS_37, ↓xL_38_q, xL_38, ↓xS_38_q, xS_38, ↓xL_39_q, xL_39, ↓xS_39_q, xS_39, ↓xL_40_q, xL_40, ↓xS_40_q, xS_40, ↓xL_43_q, xL_43, ↓xS_43_q, xS_43, ↓xL_44_q, xL_44, ↓xS_44_q, xS_44, ↓xL_45_q, xL_45, ↓xS_45_q, xS_45, ↓xL_46_q, xL_46, ↓xS_46_q, xS_46, ↓xq_30_q, xq_30, ↓xq_42_q, xq_42, ↓xr_1_0_q, xr_1_0, ↓xr_1_1_q, xr_1_1, ↓xr_1_2_q, xr_1_2, ↓xr_1_3_q, xr_1_3, ↓xr_1_4_q, xr_1_4, ↓xh_1_0_q, xh_1_0, ↓xh_1_1_q, xh_1_1, ↓xh_1_2_q, xh_1_2, ↓xh_1_3_q, xh_1_3, ↓xh_1_4_q, xh_1_4, ↓xL_2_q, xL_2, ↓xL_3_q, xL_3, ↓xL_4_q, xL_4, ↓xL_5_q, xL_5, ↓xL_6_q, xL_6, ↓xr_10_0_q, xr_10_0, ↓xr_10_1_q, xr_10_1, ↓xr_10_2_q, xr_10_2, ↓xr_10_3_q, xr_10_3, ↓xr_10_4_q, xr_10_4, ↓xh_10_0_q, xh_10_0, ↓xh_10_1_q, xh_10_1, ↓xh_10_2_q, xh_10_2, ↓xh_10_3_q, xh_10_3, ↓xh_10_4_q, xh_10_4, ↓xL_11_q, xL_11, ↓xL_12_q, xL_12, ↓xL_13_q, xL_13, ↓xL_14_q, xL_14, ↓xL_15_q, xL_15, ↓xr_18_0_q, xr_18_0, ↓xr_18_1_q, xr_18_1, ↓xr_18_2_q, xr_18_2, ↓xr_18_3_q, xr_18_3, ↓xr_18_4_q, xr_18_4, ↓xh_18_0_q, xh_18_0, ↓xh_18_1_q, xh_18_1, ↓xh_18_2_q, xh_18_2, ↓xh_18_3_q, xh_18_3, ↓xh_18_4_q, xh_18_4, ↓xL_19_q, xL_19, ↓xL_20_q, xL_20, ↓xL_21_q, xL_21, ↓xL_22_q, xL_22, ↓xL_23_q, xL_23, xo_0, xo_7, xo_9, xo_16, xo_17, xo_25, xo_27, xo_29, xo_41, xo_1, xo_10, xo_18, uA_s, uA_n, uG_s, uG_n, ne_eq, Nat.reduceEqDiff, not_false_eq_true, cI_lt, cI_eq, ↓reduceIte, if_true, if_false, Nat.lt_irrefl, eq_self, Nat.reduceEqDiff, or_true, true_or, or_false, false_or, not_false_eq_true, not_true_eq_false, ce_5, zb_t, zb_f, hd, hj, ↓xu, sub_nI, sub_nI1]
    by_cases e : (G 1).u j = v
    · rw [kf_t (decide_eq_true e)]
      simp only [e, if_true, not_true_eq_false, if_false, decide_true, Bool.toNat_true]
      by_cases e3 : X = n
      · simp (disch := omega) only [e3, if_true, not_true_eq_false, if_false, oe_s, cI_eq]
      · have e4 : ¬ nI X = nI n := by
          rw [cI_eq hX (by omega)]
          exact e3
        simp only [e3, e4, if_false, not_false_eq_true, if_true]
        rw [x_sbu1 hg hd hX hv hO k (j + 1) (n + 1) (by omega) (by omega), Nat.add_assoc]
    · rw [kf_f (decide_eq_false e)]
      simp only [e, if_false, not_false_eq_true, if_true, decide_false, Bool.toNat_false, Nat.zero_add]
      rw [x_sbu1 hg hd hX hv hO k (j + 1) n (by omega) ht]
theorem x_sbu2 (hg : GI (G 1)) (hd : 0 < d) {X : Nat} (hX : X < 2147483648) {y : Int32} : ∀ (k n : Nat) (w : Value), k < 10 → n ≤ X → z_T g d 91 27 [.ref B, .int y, .int (nI X - nI n), .int (nI k + -1), w] [] (xw f B G I A, q) P = P (.inr (some (.int (on (uf (G 1).u (G 1).C X k n)))), (xw f B G I A, q))
  | 0, n, w, hk, ht => by
    have e : (nI 0 + -1 < nI 0) = True := by decide
    rw [ze_91_27]
    simp (disch := omega) only [ze_91_0, ze_91_1, ze_91_4, ze_91_5, ze_91_6, ze_91_9, ze_91_12, ze_91_15, ze_91_16, ze_91_17, ze_91_18, ze_91_19, ze_91_20, ze_91_23, ze_91_26, ze_91_28, ze_91_31, ze_91_32, ze_91_36, ze_91_37, ze_91_40, ze_91_43, ze_91_46, ze_91_47, ze_91_50, ze_91_52, ze_91_55, ze_91_56, ze_91_59, ze_91_60, ze_91_63, ze_91_65, ze_91_66, ze_91_69, ze_91_72, ze_91_75, ze_91_78, ze_91_81, ze_91_82, z_k_r, z_push_s, z_push_n, okS_0, okS_I, okS_R, okS_A, List.getElem?_cons_zero, List.getElem?_cons_succ, List.length_cons, List.length_nil, List.set_cons_zero, List.set_cons_succ, true_and, and_true, z_tI, z_tB, pk_mul, nI_add, cI_cl, cI_ix, nar_0, nar_1, nar_b, Nat.reduceAdd, Nat.reduceLT, Nat.reduceMul, ↓xr_0_0_q, xr_0_0, ↓xr_0_1_q, xr_0_1, ↓xr_0_2_q, xr_0_2, ↓xr_0_3_q, xr_0_3, ↓xr_0_4_q, xr_0_4, ↓xr_0_5_q, xr_0_5, ↓xr_0_6_q, xr_0_6, ↓xr_0_7_q, xr_0_7, ↓xr_0_8_q, xr_0_8, ↓xr_0_9_q, xr_0_9, ↓xg_14_q, xg_14, ↓xp_14_q, xp_14, ↓xr_7_0_q, xr_7_0, ↓xg_0_q, xg_0, ↓xp_0_q, xp_0, ↓xg_1_q, xg_1, ↓xp_1_q, xp_1, ↓xg_2_q, xg_2, ↓xp_2_q, xp_2, ↓xg_3_q, xg_3, ↓xp_3_q, xp_3, ↓xg_4_q, xg_4, ↓xp_4_q, xp_4, ↓xg_5_q, xg_5, ↓xp_5_q, xp_5, ↓xr_9_0_q, xr_9_0, ↓xr_9_1_q, xr_9_1, ↓xg_6_q, xg_6, ↓xp_6_q, xp_6, ↓xg_7_q, xg_7, ↓xp_7_q, xp_7, ↓xr_16_0_q, xr_16_0, ↓xr_17_0_q, xr_17_0, ↓xr_17_1_q, xr_17_1, ↓xr_17_2_q, xr_17_2, ↓xg_8_q, xg_8, ↓xp_8_q, xp_8, ↓xr_25_0_q, xr_25_0, ↓xr_25_1_q, xr_25_1, ↓xg_9_q, xg_9, ↓xp_9_q, xp_9, ↓xg_10_q, xg_10, ↓xp_10_q, xp_10, ↓xr_27_0_q, xr_27_0, ↓xr_27_1_q, xr_27_1, ↓xg_11_q, xg_11, ↓xp_11_q, xp_11, ↓xr_29_0_q, xr_29_0, ↓xg_12_q, xg_12, ↓xp_12_q, xp_12, ↓xg_13_q, xg_13, ↓xp_13_q, xp_13, ↓xr_41_0_q, xr_41_0, ↓xr_41_1_q, xr_41_1, ↓xL_8_q, xL_8, ↓xS_8_q, xS_8, ↓xL_24_q, xL_24, ↓xS_24_q, xS_24, ↓xL_26_q, xL_26, ↓xS_26_q, xS_26, ↓xL_28_q, xL_28, ↓xS_28_q, xS_28, ↓xL_31_q, xL_31, ↓xS_31_q, xS_31, ↓xL_32_q, xL_32, ↓xS_32_q, xS_32, ↓xL_33_q, xL_33, ↓xS_33_q, xS_33, ↓xL_34_q, xL_34, ↓xS_34_q, xS_34, ↓xL_35_q, xL_35, ↓xS_35_q, xS_35, ↓xL_36_q, xL_36, ↓xS_36_q, xS_36, ↓xL_37_q, xL_37, ↓xS_37_q, xS_37, ↓xL_38_q, xL_38, ↓xS_38_q, xS_38, ↓xL_39_q, xL_39, ↓xS_39_q, xS_39, ↓xL_40_q, xL_40, ↓xS_40_q, xS_40, ↓xL_43_q, xL_43, ↓xS_43_q, xS_43, ↓xL_44_q, xL_44, ↓xS_44_q, xS_44, ↓xL_45_q, xL_45, ↓xS_45_q, xS_45, ↓xL_46_q, xL_46, ↓xS_46_q, xS_46, ↓xq_30_q, xq_30, ↓xq_42_q, xq_42, ↓xr_1_0_q, xr_1_0, ↓xr_1_1_q, xr_1_1, ↓xr_1_2_q, xr_1_2, ↓xr_1_3_q, xr_1_3, ↓xr_1_4_q, xr_1_4, ↓xh_1_0_q, xh_1_0, ↓xh_1_1_q, xh_1_1, ↓xh_1_2_q, xh_1_2, ↓xh_1_3_q, xh_1_3, ↓xh_1_4_q, xh_1_4, ↓xL_2_q, xL_2, ↓xL_3_q, xL_3, ↓xL_4_q, xL_4, ↓xL_5_q, xL_5, ↓xL_6_q, xL_6, ↓xr_10_0_q, xr_10_0, ↓xr_10_1_q, xr_10_1, ↓xr_10_2_q, xr_10_2, ↓xr_10_3_q, xr_10_3, ↓xr_10_4_q, xr_10_4, ↓xh_10_0_q, xh_10_0, ↓xh_10_1_q, xh_10_1, ↓xh_10_2_q, xh_10_2, ↓xh_10_3_q, xh_10_3, ↓xh_10_4_q, xh_10_4, ↓xL_11_q, xL_11, ↓xL_12_q, xL_12, ↓xL_13_q, xL_13, ↓xL_14_q, xL_14, ↓xL_15_q, xL_15, ↓xr_18_0_q, xr_18_0, ↓xr_18_1_q, xr_18_1, ↓xr_18_2_q, xr_18_2, ↓xr_18_3_q, xr_18_3, ↓xr_18_4_q, xr_18_4, ↓xh_18_0_q, xh_18_0, ↓xh_18_1_q, xh_18_1, ↓xh_18_2_q, xh_18_2, ↓xh_18_3_q, xh_18_3, ↓xh_18_4_q, xh_18_4, ↓xL_19_q, xL_19, ↓xL_20_q, xL_20, ↓xL_21_q, xL_21, ↓xL_22_q, xL_22, ↓xL_23_q, xL_23, xo_0, xo_7, xo_9, xo_16, xo_17, xo_25, xo_27, xo_29, xo_41, xo_1, xo_10, xo_18, uA_s, uA_n, uG_s, uG_n, ne_eq, Nat.reduceEqDiff, not_false_eq_true, cI_lt, cI_eq, ↓reduceIte, if_true, if_false, Nat.lt_irrefl, eq_self, Nat.reduceEqDiff, or_true, true_or, or_false, false_or, not_false_eq_true, not_true_eq_false, ce_5, zb_t, zb_f, e]
    rfl
  | k + 1, n, w, hk, ht => by
    have hn : ¬ k < 0 := by omega
    rw [cI_m1, ze_91_27]
    simp (disch := omega) only [ze_91_0, ze_91_1, ze_91_4, ze_91_5, ze_91_6, ze_91_9, ze_91_12, ze_91_15, ze_91_16, ze_91_17, ze_91_18, ze_91_19, ze_91_20, ze_91_23, ze_91_26, ze_91_28, ze_91_31, ze_91_32, ze_91_36, ze_91_37, ze_91_40, ze_91_43, ze_91_46, ze_91_47, ze_91_50, ze_91_52, ze_91_55, ze_91_56, ze_91_59, ze_91_60, ze_91_63, ze_91_65, ze_91_66, ze_91_69, ze_91_72, ze_91_78, ze_91_81, ze_91_82, z_k_r, z_push_s, z_push_n, okS_0, okS_I, okS_R, okS_A, List.getElem?_cons_zero, List.getElem?_cons_succ, List.length_cons, List.length_nil, List.set_cons_zero, List.set_cons_succ, true_and, and_true, z_tI, z_tB, pk_mul, nI_add, cI_cl, cI_ix, nar_0, nar_1, nar_b, Nat.reduceAdd, Nat.reduceLT, Nat.reduceMul, ↓xr_0_0_q, xr_0_0, ↓xr_0_1_q, xr_0_1, ↓xr_0_2_q, xr_0_2, ↓xr_0_3_q, xr_0_3, ↓xr_0_4_q, xr_0_4, ↓xr_0_5_q, xr_0_5, ↓xr_0_6_q, xr_0_6, ↓xr_0_7_q, xr_0_7, ↓xr_0_8_q, xr_0_8, ↓xr_0_9_q, xr_0_9, ↓xg_14_q, xg_14, ↓xp_14_q, xp_14, ↓xr_7_0_q, xr_7_0, ↓xg_0_q, xg_0, ↓xp_0_q, xp_0, ↓xg_1_q, xg_1, ↓xp_1_q, xp_1, ↓xg_2_q, xg_2, ↓xp_2_q, xp_2, ↓xg_3_q, xg_3, ↓xp_3_q, xp_3, ↓xg_4_q, xg_4, ↓xp_4_q, xp_4, ↓xg_5_q, xg_5, ↓xp_5_q, xp_5, ↓xr_9_0_q, xr_9_0, ↓xr_9_1_q, xr_9_1, ↓xg_6_q, xg_6, ↓xp_6_q, xp_6, ↓xg_7_q, xg_7, ↓xp_7_q, xp_7, ↓xr_16_0_q, xr_16_0, ↓xr_17_0_q, xr_17_0, ↓xr_17_1_q, xr_17_1, ↓xr_17_2_q, xr_17_2, ↓xg_8_q, xg_8, ↓xp_8_q, xp_8, ↓xr_25_0_q, xr_25_0, ↓xr_25_1_q, xr_25_1, ↓xg_9_q, xg_9, ↓xp_9_q, xp_9, ↓xg_10_q, xg_10, ↓xp_10_q, xp_10, ↓xr_27_0_q, xr_27_0, ↓xr_27_1_q, xr_27_1, ↓xg_11_q, xg_11, ↓xp_11_q, xp_11, ↓xr_29_0_q, xr_29_0, ↓xg_12_q, xg_12, ↓xp_12_q, xp_12, ↓xg_13_q, xg_13, ↓xp_13_q, xp_13, ↓xr_41_0_q, xr_41_0, ↓xr_41_1_q, xr_41_1, ↓xL_8_q, xL_8, ↓xS_8_q, xS_8, ↓xL_24_q, xL_24, ↓xS_24_q, xS_24, ↓xL_26_q, xL_26, ↓xS_26_q, xS_26, ↓xL_28_q, xL_28, ↓xS_28_q, xS_28, ↓xL_31_q, xL_31, ↓xS_31_q, xS_31, ↓xL_32_q, xL_32, ↓xS_32_q, xS_32, ↓xL_33_q, xL_33, ↓xS_33_q, xS_33, ↓xL_34_q, xL_34, ↓xS_34_q, xS_34, ↓xL_35_q, xL_35, ↓xS_35_q, xS_35, ↓xL_36_q, xL_36, ↓xS_36_q, xS_36, ↓xL_37_q, xL_37, ↓xS_37_q, xS_37, ↓xL_38_q, xL_38, ↓xS_38_q, xS_38, ↓xL_39_q, xL_39, ↓xS_39_q, xS_39, ↓xL_40_q, xL_40, ↓xS_40_q, xS_40, ↓xL_43_q, xL_43, ↓xS_43_q, xS_43, ↓xL_44_q, xL_44, ↓xS_44_q, xS_44, ↓xL_45_q, xL_45, ↓xS_45_q, xS_45, ↓xL_46_q, xL_46, ↓xS_46_q, xS_46, ↓xq_30_q, xq_30, ↓xq_42_q, xq_42, ↓xr_1_0_q, xr_1_0, ↓xr_1_1_q, xr_1_1, ↓xr_1_2_q, xr_1_2, ↓xr_1_3_q, xr_1_3, ↓xr_1_4_q, xr_1_4, ↓xh_1_0_q, xh_1_0, ↓xh_1_1_q, xh_1_1, ↓xh_1_2_q, xh_1_2, ↓xh_1_3_q, xh_1_3, ↓xh_1_4_q, xh_1_4, ↓xL_2_q, xL_2, ↓xL_3_q, xL_3, ↓xL_4_q, xL_4, ↓xL_5_q, xL_5, ↓xL_6_q, xL_6, ↓xr_10_0_q, xr_10_0, ↓xr_10_1_q, xr_10_1, ↓xr_10_2_q, xr_10_2, ↓xr_10_3_q, xr_10_3, ↓xr_10_4_q, xr_10_4, ↓xh_10_0_q, xh_10_0, ↓xh_10_1_q, xh_10_1, ↓xh_10_2_q, xh_10_2, ↓xh_10_3_q, xh_10_3, ↓xh_10_4_q, xh_10_4, ↓xL_11_q, xL_11, ↓xL_12_q, xL_12, ↓xL_13_q, xL_13, ↓xL_14_q, xL_14, ↓xL_15_q, xL_15, ↓xr_18_0_q, xr_18_0, ↓xr_18_1_q, xr_18_1, ↓xr_18_2_q, xr_18_2, ↓xr_18_3_q, xr_18_3, ↓xr_18_4_q, xr_18_4, ↓xh_18_0_q, xh_18_0, ↓xh_18_1_q, xh_18_1, ↓xh_18_2_q, xh_18_2, ↓xh_18_3_q, xh_18_3, ↓xh_18_4_q, xh_18_4, ↓xL_19_q, xL_19, ↓xL_20_q, xL_20, ↓xL_21_q, xL_21, ↓xL_22_q, xL_22, ↓xL_23_q, xL_23, xo_0, xo_7, xo_9, xo_16, xo_17, xo_25, xo_27, xo_29, xo_41, xo_1, xo_10, xo_18, uA_s, uA_n, uG_s, uG_n, ne_eq, Nat.reduceEqDiff, not_false_eq_true, cI_lt, cI_eq, ↓reduceIte, if_true, if_false, Nat.lt_irrefl, eq_self, Nat.reduceEqDiff, or_true, true_or, or_false, false_or, not_false_eq_true, not_true_eq_false, ce_5, zb_t, zb_f, hn]
    rw [x_sbu1 hg hd hX (by omega) (E := fun n => P (.inr (some (.int (on (uf (G 1).u (G 1).C X k n)))), (xw f B G I A, q))) (fun n hn => ?_) _ 0 n (Nat.zero_add _) ht]
    · conv => rhs; unfold uf
      cases kf (fun t => decide ((G 1).u t = k)) (nI X) 0 (G 1).C n with
      | some i => rfl
      | none => rfl
    · simp (disch := omega) only [ze_91_0, ze_91_1, ze_91_4, ze_91_5, ze_91_6, ze_91_9, ze_91_12, ze_91_15, ze_91_16, ze_91_17, ze_91_18, ze_91_19, ze_91_20, ze_91_23, ze_91_26, ze_91_28, ze_91_31, ze_91_32, ze_91_36, ze_91_37, ze_91_40, ze_91_43, ze_91_46, ze_91_47, ze_91_50, ze_91_52, ze_91_55, ze_91_56, ze_91_59, ze_91_60, ze_91_63, ze_91_65, ze_91_66, ze_91_69, ze_91_72, ze_91_75, ze_91_78, ze_91_81, ze_91_82, z_k_r, z_push_s, z_push_n, okS_0, okS_I, okS_R, okS_A, List.getElem?_cons_zero, List.getElem?_cons_succ, List.length_cons, List.length_nil, List.set_cons_zero, List.set_cons_succ, true_and, and_true, z_tI, z_tB, pk_mul, nI_add, cI_cl, cI_ix, nar_0, nar_1, nar_b, Nat.reduceAdd, Nat.reduceLT, Nat.reduceMul, cI_lt, cI_eq, ↓reduceIte, if_true, if_false, Nat.lt_irrefl, eq_self, Nat.reduceEqDiff, or_true, true_or, or_false, false_or, not_false_eq_true, not_true_eq_false, ce_5, zb_t, zb_f]
      rw [x_sbu2 hg hd hX k n _ (by omega) hn]
theorem m_sbu1 (hM : MH I A S) (hg : GI S) (hd : 1 < d) {y : Int32} {s : Nat} (hs : s < S.C) : ∀ (k t n : Nat), t + k = S.C → z_T g d 166 20 [.ref m, .int y, .int (nI s), .int (nI n), .int (nI t)] [] (mw f m I A, q) P = z_T g d 166 77 [.ref m, .int y, .int (nI s), .int (nI (n + ct (fun t => decide (S.u s < S.u t ∨ S.u t = S.u s ∧ t < s)) t k)), .int (nI S.C)] [] (mw f m I A, q) P
  | 0, t, n, h => by
    have : t = S.C := by omega
    subst this
    have h2 := hM.2.1
    have hn : ¬ S.C < S.C := by omega
    have hC := hg.C5
    rw [ze_166_20]
    simp (disch := omega) only [ze_166_0, ze_166_1, ze_166_2, ze_166_5, ze_166_6, ze_166_7, ze_166_8, ze_166_9, ze_166_12, ze_166_15, ze_166_16, ze_166_17, ze_166_18, ze_166_22, ze_166_23, ze_166_26, ze_166_29, ze_166_30, ze_166_31, ze_166_33, ze_166_36, ze_166_37, ze_166_38, ze_166_41, ze_166_44, ze_166_45, ze_166_47, ze_166_50, ze_166_51, ze_166_52, ze_166_55, ze_166_58, ze_166_60, ze_166_61, ze_166_64, ze_166_65, ze_166_68, ze_166_69, ze_166_70, ze_166_71, ze_166_74, ze_166_78, ze_166_79, ze_166_82, ze_166_83, ze_166_84, ze_166_87, ze_166_90, ze_166_91, z_k_r, z_push_s, z_push_n, okS_0, okS_I, okS_R, okS_A, List.getElem?_cons_zero, List.getElem?_cons_succ, List.length_cons, List.length_nil, List.set_cons_zero, List.set_cons_succ, true_and, and_true, z_tI, z_tB, pk_mul, nI_add, cI_cl, cI_ix, nar_0, nar_1, nar_b, Nat.reduceAdd, Nat.reduceLT, Nat.reduceMul, ↓mg_0_q, mg_0, ↓mp_0_q, mp_0, ↓mg_1_q, mg_1, ↓mp_1_q, mp_1, ↓mg_2_q, mg_2, ↓mp_2_q, mp_2, ↓mg_3_q, mg_3, ↓mp_3_q, mp_3, ↓mg_4_q, mg_4, ↓mp_4_q, mp_4, ↓mg_5_q, mg_5, ↓mp_5_q, mp_5, ↓mg_6_q, mg_6, ↓mp_6_q, mp_6, ↓mg_7_q, mg_7, ↓mg_8_q, mg_8, ↓mg_9_q, mg_9, ↓mg_10_q, mg_10, ↓mg_11_q, mg_11, ↓mg_12_q, mg_12, ↓mg_13_q, mg_13, ↓mp_13_q, mp_13, ↓mg_14_q, mg_14, ↓mp_14_q, mp_14, ↓mg_15_q, mg_15, ↓mp_15_q, mp_15, ↓mg_16_q, mg_16, ↓mp_16_q, mp_16, ↓mg_17_q, mg_17, ↓mp_17_q, mp_17, ↓mg_18_q, mg_18, ↓mp_18_q, mp_18, ↓mg_19_q, mg_19, ↓mp_19_q, mp_19, ↓mg_20_q, mg_20, ↓mp_20_q, mp_20, ↓mg_21_q, mg_21, ↓mp_21_q, mp_21, ↓mg_22_q, mg_22, ↓mg_23_q, mg_23, ↓mp_23_q, mp_23, ↓mg_24_q, mg_24, ↓mg_25_q, mg_25, ↓mg_26_q, mg_26, ↓mg_27_q, mg_27, ↓mg_28_q, mg_28, ↓mL_1_q, mL_1, ↓mS_1_q, mS_1, ↓mL_2_q, mL_2, ↓mS_2_q, mS_2, ↓mL_3_q, mL_3, ↓mS_3_q, mS_3, ↓mL_4_q, mL_4, ↓mS_4_q, mS_4, ↓mL_5_q, mL_5, ↓mS_5_q, mS_5, ↓mL_6_q, mL_6, ↓mS_6_q, mS_6, ↓mL_7_q, mL_7, ↓mS_7_q, mS_7, ↓mL_8_q, mL_8, ↓mS_8_q, mS_8, ↓mL_9_q, mL_9, ↓mS_9_q, mS_9, ↓mL_10_q, mL_10, ↓mS_10_q, mS_10, ↓mL_11_q, mL_11, ↓mS_11_q, mS_11, ↓mL_12_q, mL_12, ↓mS_12_q, mS_12, m_gO, uA_s, uA_n, cI_lt, cI_eq, ↓reduceIte, if_true, if_false, Nat.lt_irrefl, eq_self, Nat.reduceEqDiff, or_true, true_or, or_false, false_or, not_false_eq_true, not_true_eq_false, ce_5, zb_t, zb_f, h2]
    rfl
  | k + 1, t, n, h => by
    have h2 := hM.2.1
    have hC := hg.C5
    have hR := hg.RC
    have hj : t < S.C := by omega
    have x1 : ∀ k, (ce (S.c k) = nI t) = (S.c k = t) := fun k => ce_eqI (hg.c5 k) (by omega)
    have x2 : ∀ k, (ce (S.c k) = nI s) = (S.c k = s) := fun k => ce_eqI (hg.c5 k) (by omega)
    have u1 := u_le hg (s := t) (by omega)
    have u2 := u_le hg (s := s) (by omega)
    have c1 := fun P => m_usesOf (g := g) (d := d - 1) (f := f) (q := q) (P := P) (m := m) hM x1
    have c2 := fun P => m_usesOf (g := g) (d := d - 1) (f := f) (q := q) (P := P) (m := m) hM x2
    rw [← us_25 hg (by omega), show us S.c S.R S.C t = S.u t from rfl] at c1
    rw [← us_25 hg (by omega), show us S.c S.R S.C s = S.u s from rfl] at c2
    have hd0 : 0 < d := by omega
    rw [ze_166_20, ct_s]
    simp (disch := omega) only [ze_166_0, ze_166_1, ze_166_2, ze_166_5, ze_166_6, ze_166_7, ze_166_8, ze_166_9, ze_166_12, ze_166_15, ze_166_16, ze_166_17, ze_166_18, ze_166_22, ze_166_23, ze_166_26, ze_166_29, ze_166_30, ze_166_31, ze_166_33, ze_166_36, ze_166_37, ze_166_38, ze_166_41, ze_166_44, ze_166_45, ze_166_47, ze_166_50, ze_166_51, ze_166_52, ze_166_55, ze_166_58, ze_166_60, ze_166_61, ze_166_64, ze_166_65, ze_166_68, ze_166_69, ze_166_70, ze_166_71, ze_166_74, ze_166_78, ze_166_79, ze_166_82, ze_166_83, ze_166_84, ze_166_87, ze_166_90, ze_166_91, z_k_r, z_push_s, z_push_n, okS_0, okS_I, okS_R, okS_A, List.getElem?_cons_zero, List.getElem?_cons_succ, List.length_cons, List.length_nil, List.set_cons_zero, List.set_cons_succ, true_and, and_true, z_tI, z_tB, pk_mul, nI_add, cI_cl, cI_ix, nar_0, nar_1, nar_b, Nat.reduceAdd, Nat.reduceLT, Nat.reduceMul, ↓mg_0_q, mg_0, ↓mp_0_q, mp_0, ↓mg_1_q, mg_1, ↓mp_1_q, mp_1, ↓mg_2_q, mg_2, ↓mp_2_q, mp_2, ↓mg_3_q, mg_3, ↓mp_3_q, mp_3, ↓mg_4_q, mg_4, ↓mp_4_q, mp_4, ↓mg_5_q, mg_5, ↓mp_5_q, mp_5, ↓mg_6_q, mg_6, ↓mp_6_q, mp_6, ↓mg_7_q, mg_7, ↓mg_8_q, mg_8, ↓mg_9_q, mg_9, ↓mg_10_q, mg_10, ↓mg_11_q, mg_11, ↓mg_12_q, mg_12, ↓mg_13_q, mg_13, ↓mp_13_q, mp_13, ↓mg_14_q, mg_14, ↓mp_14_q, mp_14, ↓mg_15_q, mg_15, ↓mp_15_q, mp_15, ↓mg_16_q, mg_16, ↓mp_16_q, mp_16, ↓mg_17_q, mg_17, ↓mp_17_q, mp_17, ↓mg_18_q, mg_18, ↓mp_18_q, mp_18, ↓mg_19_q, mg_19, ↓mp_19_q, mp_19, ↓mg_20_q, mg_20, ↓mp_20_q, mp_20, ↓mg_21_q, mg_21, ↓mp_21_q, mp_21, ↓mg_22_q, mg_22, ↓mg_23_q, mg_23, ↓mp_23_q, mp_23, ↓mg_24_q, mg_24, ↓mg_25_q, mg_25, ↓mg_26_q, mg_26, ↓mg_27_q, mg_27, ↓mg_28_q, mg_28, ↓mL_1_q, mL_1, ↓mS_1_q, mS_1, ↓mL_2_q, mL_2, ↓mS_2_q, mS_2, ↓mL_3_q, mL_3, ↓mS_3_q, mS_3, ↓mL_4_q, mL_4, ↓mS_4_q, mS_4, ↓mL_5_q, mL_5, ↓mS_5_q, mS_5, ↓mL_6_q, mL_6, ↓mS_6_q, mS_6, ↓mL_7_q, mL_7, ↓mS_7_q, mS_7, ↓mL_8_q, mL_8, ↓mS_8_q, mS_8, ↓mL_9_q, mL_9, ↓mS_9_q, mS_9, ↓mL_10_q, mL_10, ↓mS_10_q, mS_10, ↓mL_11_q, mL_11, ↓mS_11_q, mS_11, ↓mL_12_q, mL_12, ↓mS_12_q, mS_12, m_gO, uA_s, uA_n, cI_lt, cI_eq, ↓reduceIte, if_true, if_false, Nat.lt_irrefl, eq_self, Nat.reduceEqDiff, or_true, true_or, or_false, false_or, not_false_eq_true, not_true_eq_false, ce_5, zb_t, zb_f, h2, hj, hd0, ↓c1, ↓c2]
    by_cases e1 : S.u s < S.u t
    · rw [decide_eq_true (p := S.u s < S.u t ∨ S.u t = S.u s ∧ t < s) (by omega), Bool.toNat_true]
      simp only [e1, if_true]
      rw [m_sbu1 hM hg hd hs k (t + 1) (n + 1) (by omega), Nat.add_assoc]
    · by_cases e2 : S.u t = S.u s
      · by_cases e3 : t < s
        · have e4 : ¬ s ≤ t := by omega
          rw [decide_eq_true (p := S.u s < S.u t ∨ S.u t = S.u s ∧ t < s) (by omega), Bool.toNat_true]
          simp only [e1, e2, e3, e4, if_true, if_false, not_true_eq_false, not_false_eq_true, Nat.lt_irrefl]
          rw [m_sbu1 hM hg hd hs k (t + 1) (n + 1) (by omega), Nat.add_assoc]
        · rw [decide_eq_false (p := S.u s < S.u t ∨ S.u t = S.u s ∧ t < s) (by omega), Bool.toNat_false, Nat.zero_add]
          simp only [e1, e2, e3, if_true, if_false, not_true_eq_false, not_false_eq_true, Nat.lt_irrefl, Nat.add_zero]
          rw [m_sbu1 hM hg hd hs k (t + 1) n (by omega)]
      · rw [decide_eq_false (p := S.u s < S.u t ∨ S.u t = S.u s ∧ t < s) (by omega), Bool.toNat_false, Nat.zero_add]
        simp only [e1, e2, if_true, if_false, not_true_eq_false, not_false_eq_true, Nat.add_zero]
        rw [m_sbu1 hM hg hd hs k (t + 1) n (by omega)]
theorem m_sbu2 (hM : MH I A S) (hg : GI S) (hd : 1 < d) {y : Int32} : ∀ (k s : Nat) (u v : Value), s + k = S.C → z_T g d 166 7 [.ref m, .int y, .int (nI s), u, v] [] (mw f m I A, q) P = P (.inr (some (.int (on (kf (fun s => decide (nI (rnk S.u S.C s) = y)) (nI 0) s k 0)))), (mw f m I A, q))
  | 0, s, u, v, h => by
    have : s = S.C := by omega
    subst this
    have h2 := hM.2.1
    have hC := hg.C5
    rw [ze_166_7]
    simp (disch := omega) only [ze_166_0, ze_166_1, ze_166_2, ze_166_5, ze_166_6, ze_166_8, ze_166_9, ze_166_12, ze_166_15, ze_166_16, ze_166_17, ze_166_18, ze_166_22, ze_166_23, ze_166_26, ze_166_29, ze_166_30, ze_166_31, ze_166_33, ze_166_36, ze_166_37, ze_166_38, ze_166_41, ze_166_44, ze_166_45, ze_166_47, ze_166_50, ze_166_51, ze_166_52, ze_166_55, ze_166_58, ze_166_60, ze_166_61, ze_166_64, ze_166_65, ze_166_68, ze_166_69, ze_166_70, ze_166_71, ze_166_74, ze_166_77, ze_166_78, ze_166_79, ze_166_82, ze_166_83, ze_166_84, ze_166_87, ze_166_90, ze_166_91, z_k_r, z_push_s, z_push_n, okS_0, okS_I, okS_R, okS_A, List.getElem?_cons_zero, List.getElem?_cons_succ, List.length_cons, List.length_nil, List.set_cons_zero, List.set_cons_succ, true_and, and_true, z_tI, z_tB, pk_mul, nI_add, cI_cl, cI_ix, nar_0, nar_1, nar_b, Nat.reduceAdd, Nat.reduceLT, Nat.reduceMul, ↓mg_0_q, mg_0, ↓mp_0_q, mp_0, ↓mg_1_q, mg_1, ↓mp_1_q, mp_1, ↓mg_2_q, mg_2, ↓mp_2_q, mp_2, ↓mg_3_q, mg_3, ↓mp_3_q, mp_3, ↓mg_4_q, mg_4, ↓mp_4_q, mp_4, ↓mg_5_q, mg_5, ↓mp_5_q, mp_5, ↓mg_6_q, mg_6, ↓mp_6_q, mp_6, ↓mg_7_q, mg_7, ↓mg_8_q, mg_8, ↓mg_9_q, mg_9, ↓mg_10_q, mg_10, ↓mg_11_q, mg_11, ↓mg_12_q, mg_12, ↓mg_13_q, mg_13, ↓mp_13_q, mp_13, ↓mg_14_q, mg_14, ↓mp_14_q, mp_14, ↓mg_15_q, mg_15, ↓mp_15_q, mp_15, ↓mg_16_q, mg_16, ↓mp_16_q, mp_16, ↓mg_17_q, mg_17, ↓mp_17_q, mp_17, ↓mg_18_q, mg_18, ↓mp_18_q, mp_18, ↓mg_19_q, mg_19, ↓mp_19_q, mp_19, ↓mg_20_q, mg_20, ↓mp_20_q, mp_20, ↓mg_21_q, mg_21, ↓mp_21_q, mp_21, ↓mg_22_q, mg_22, ↓mg_23_q, mg_23, ↓mp_23_q, mp_23, ↓mg_24_q, mg_24, ↓mg_25_q, mg_25, ↓mg_26_q, mg_26, ↓mg_27_q, mg_27, ↓mg_28_q, mg_28, ↓mL_1_q, mL_1, ↓mS_1_q, mS_1, ↓mL_2_q, mL_2, ↓mS_2_q, mS_2, ↓mL_3_q, mL_3, ↓mS_3_q, mS_3, ↓mL_4_q, mL_4, ↓mS_4_q, mS_4, ↓mL_5_q, mL_5, ↓mS_5_q, mS_5, ↓mL_6_q, mL_6, ↓mS_6_q, mS_6, ↓mL_7_q, mL_7, ↓mS_7_q, mS_7, ↓mL_8_q, mL_8, ↓mS_8_q, mS_8, ↓mL_9_q, mL_9, ↓mS_9_q, mS_9, ↓mL_10_q, mL_10, ↓mS_10_q, mS_10, ↓mL_11_q, mL_11, ↓mS_11_q, mS_11, ↓mL_12_q, mL_12, ↓mS_12_q, mS_12, m_gO, uA_s, uA_n, cI_lt, cI_eq, ↓reduceIte, if_true, if_false, Nat.lt_irrefl, eq_self, Nat.reduceEqDiff, or_true, true_or, or_false, false_or, not_false_eq_true, not_true_eq_false, ce_5, zb_t, zb_f, h2]
    rfl
  | k + 1, s, u, v, h => by
    have h2 := hM.2.1
    have hC := hg.C5
    have hj : s < S.C := by omega
    rw [ze_166_7]
    simp (disch := omega) only [ze_166_0, ze_166_1, ze_166_2, ze_166_5, ze_166_6, ze_166_8, ze_166_9, ze_166_12, ze_166_15, ze_166_16, ze_166_17, ze_166_18, ze_166_22, ze_166_23, ze_166_26, ze_166_29, ze_166_30, ze_166_31, ze_166_33, ze_166_36, ze_166_37, ze_166_38, ze_166_41, ze_166_44, ze_166_45, ze_166_47, ze_166_50, ze_166_51, ze_166_52, ze_166_55, ze_166_58, ze_166_60, ze_166_61, ze_166_64, ze_166_65, ze_166_68, ze_166_69, ze_166_70, ze_166_71, ze_166_74, ze_166_77, ze_166_78, ze_166_79, ze_166_82, ze_166_83, ze_166_84, ze_166_87, ze_166_90, ze_166_91, z_k_r, z_push_s, z_push_n, okS_0, okS_I, okS_R, okS_A, List.getElem?_cons_zero, List.getElem?_cons_succ, List.length_cons, List.length_nil, List.set_cons_zero, List.set_cons_succ, true_and, and_true, z_tI, z_tB, pk_mul, nI_add, cI_cl, cI_ix, nar_0, nar_1, nar_b, Nat.reduceAdd, Nat.reduceLT, Nat.reduceMul, ↓mg_0_q, mg_0, ↓mp_0_q, mp_0, ↓mg_1_q, mg_1, ↓mp_1_q, mp_1, ↓mg_2_q, mg_2, ↓mp_2_q, mp_2, ↓mg_3_q, mg_3, ↓mp_3_q, mp_3, ↓mg_4_q, mg_4, ↓mp_4_q, mp_4, ↓mg_5_q, mg_5, ↓mp_5_q, mp_5, ↓mg_6_q, mg_6, ↓mp_6_q, mp_6, ↓mg_7_q, mg_7, ↓mg_8_q, mg_8, ↓mg_9_q, mg_9, ↓mg_10_q, mg_10, ↓mg_11_q, mg_11, ↓mg_12_q, mg_12, ↓mg_13_q, mg_13, ↓mp_13_q, mp_13, ↓mg_14_q, mg_14, ↓mp_14_q, mp_14, ↓mg_15_q, mg_15, ↓mp_15_q, mp_15, ↓mg_16_q, mg_16, ↓mp_16_q, mp_16, ↓mg_17_q, mg_17, ↓mp_17_q, mp_17, ↓mg_18_q, mg_18, ↓mp_18_q, mp_18, ↓mg_19_q, mg_19, ↓mp_19_q, mp_19, ↓mg_20_q, mg_20, ↓mp_20_q, mp_20, ↓mg_21_q, mg_21, ↓mp_21_q, mp_21, ↓mg_22_q, mg_22, ↓mg_23_q, mg_23, ↓mp_23_q, mp_23, ↓mg_24_q, mg_24, ↓mg_25_q, mg_25, ↓mg_26_q, mg_26, ↓mg_27_q, mg_27, ↓mg_28_q, mg_28, ↓mL_1_q, mL_1, ↓mS_1_q, mS_1, ↓mL_2_q, mL_2, ↓mS_2_q, mS_2, ↓mL_3_q, mL_3, ↓mS_3_q, mS_3, ↓mL_4_q, mL_4, ↓mS_4_q, mS_4, ↓mL_5_q, mL_5, ↓mS_5_q, mS_5, ↓mL_6_q, mL_6, ↓mS_6_q, mS_6, ↓mL_7_q, mL_7, ↓mS_7_q, mS_7, ↓mL_8_q, mL_8, ↓mS_8_q, mS_8, ↓mL_9_q, mL_9, ↓mS_9_q, mS_9, ↓mL_10_q, mL_10, ↓mS_10_q, mS_10, ↓mL_11_q, mL_11, ↓mS_11_q, mS_11, ↓mL_12_q, mL_12, ↓mS_12_q, mS_12, m_gO, uA_s, uA_n, cI_lt, cI_eq, ↓reduceIte, if_true, if_false, Nat.lt_irrefl, eq_self, Nat.reduceEqDiff, or_true, true_or, or_false, false_or, not_false_eq_true, not_true_eq_false, ce_5, zb_t, zb_f, h2, hj]
    rw [m_sbu1 hM hg hd hj S.C 0 0 (Nat.zero_add _), Nat.zero_add, show ct (fun t => decide (S.u s < S.u t ∨ S.u t = S.u s ∧ t < s)) 0 S.C = rnk S.u S.C s from rfl]
    simp (disch := omega) only [ze_166_0, ze_166_1, ze_166_2, ze_166_5, ze_166_6, ze_166_8, ze_166_9, ze_166_12, ze_166_15, ze_166_16, ze_166_17, ze_166_18, ze_166_22, ze_166_23, ze_166_26, ze_166_29, ze_166_30, ze_166_31, ze_166_33, ze_166_36, ze_166_37, ze_166_38, ze_166_41, ze_166_44, ze_166_45, ze_166_47, ze_166_50, ze_166_51, ze_166_52, ze_166_55, ze_166_58, ze_166_60, ze_166_61, ze_166_64, ze_166_65, ze_166_68, ze_166_69, ze_166_70, ze_166_71, ze_166_74, ze_166_77, ze_166_78, ze_166_79, ze_166_82, ze_166_83, ze_166_84, ze_166_87, ze_166_90, ze_166_91, z_k_r, z_push_s, z_push_n, okS_0, okS_I, okS_R, okS_A, List.getElem?_cons_zero, List.getElem?_cons_succ, List.length_cons, List.length_nil, List.set_cons_zero, List.set_cons_succ, true_and, and_true, z_tI, z_tB, pk_mul, nI_add, cI_cl, cI_ix, nar_0, nar_1, nar_b, Nat.reduceAdd, Nat.reduceLT, Nat.reduceMul]
    by_cases e : nI (rnk S.u S.C s) = y
    · rw [kf_t (decide_eq_true e)]
      simp only [e, if_true, not_true_eq_false, if_false]
      rfl
    · rw [kf_f (decide_eq_false e)]
      simp only [e, if_false, not_false_eq_true, if_true]
      rw [m_sbu2 hM hg hd k (s + 1) _ _ (by omega)]
theorem op_symbolByUse (hI : INV G I A J K) (hd : 9 < d) (v : Int32) : OP g d f fr B m 91 166 [] false [.int v] G I A J K := by
  have hg := hI.1
  have hC := hg.C5
  have hR := hg.RC
  have hd0 : 0 < d := by omega
  have hM := MH_upd (nI 0) (k := 0) (by omega) hI.2.1
  refine OPv hI (on (kf (fun s => decide (nI (rnk (G 1).u (G 1).C s) = v)) (nI 0) 0 (G 1).C 0)) nb (fun q P => ?_) (fun f q P => ?_)
  · have bad : okN v (G 1).C = false → kf (fun s => decide (nI (rnk (G 1).u (G 1).C s) = v)) (nI 0) 0 (G 1).C 0 = none := by
      intro h
      refine kf_none _ _ _ fun j _ hj => decide_eq_false fun e => ?_
      rw [← e, okN_nI (by omega) (rnk_lt (by omega))] at h
      cases h
    rw [zn_91]
    by_cases h0 : v < nI 0
    · rw [bad (by unfold okN; rw [decide_eq_true h0]; rfl)]
      simp (disch := omega) only [ze_91_0, ze_91_1, ze_91_4, ze_91_5, ze_91_6, ze_91_9, ze_91_12, ze_91_15, ze_91_16, ze_91_17, ze_91_18, ze_91_19, ze_91_20, ze_91_23, ze_91_26, ze_91_27, ze_91_28, ze_91_31, ze_91_32, ze_91_34, ze_91_36, ze_91_37, ze_91_40, ze_91_43, ze_91_46, ze_91_47, ze_91_50, ze_91_52, ze_91_55, ze_91_56, ze_91_59, ze_91_60, ze_91_63, ze_91_65, ze_91_66, ze_91_69, ze_91_72, ze_91_75, ze_91_78, ze_91_81, ze_91_82, z_k_r, z_push_s, z_push_n, okS_0, okS_I, okS_R, okS_A, List.getElem?_cons_zero, List.getElem?_cons_succ, List.length_cons, List.length_nil, List.set_cons_zero, List.set_cons_succ, true_and, and_true, z_tI, z_tB, pk_mul, nI_add, cI_cl, cI_ix, nar_0, nar_1, nar_b, Nat.reduceAdd, Nat.reduceLT, Nat.reduceMul, ↓xr_0_0_q, xr_0_0, ↓xr_0_1_q, xr_0_1, ↓xr_0_2_q, xr_0_2, ↓xr_0_3_q, xr_0_3, ↓xr_0_4_q, xr_0_4, ↓xr_0_5_q, xr_0_5, ↓xr_0_6_q, xr_0_6, ↓xr_0_7_q, xr_0_7, ↓xr_0_8_q, xr_0_8, ↓xr_0_9_q, xr_0_9, ↓xg_14_q, xg_14, ↓xp_14_q, xp_14, ↓xr_7_0_q, xr_7_0, ↓xg_0_q, xg_0, ↓xp_0_q, xp_0, ↓xg_1_q, xg_1, ↓xp_1_q, xp_1, ↓xg_2_q, xg_2, ↓xp_2_q, xp_2, ↓xg_3_q, xg_3, ↓xp_3_q, xp_3, ↓xg_4_q, xg_4, ↓xp_4_q, xp_4, ↓xg_5_q, xg_5, ↓xp_5_q, xp_5, ↓xr_9_0_q, xr_9_0, ↓xr_9_1_q, xr_9_1, ↓xg_6_q, xg_6, ↓xp_6_q, xp_6, ↓xg_7_q, xg_7, ↓xp_7_q, xp_7, ↓xr_16_0_q, xr_16_0, ↓xr_17_0_q, xr_17_0, ↓xr_17_1_q, xr_17_1, ↓xr_17_2_q, xr_17_2, ↓xg_8_q, xg_8, ↓xp_8_q, xp_8, ↓xr_25_0_q, xr_25_0, ↓xr_25_1_q, xr_25_1, ↓xg_9_q, xg_9, ↓xp_9_q, xp_9, ↓xg_10_q, xg_10, ↓xp_10_q, xp_10, ↓xr_27_0_q, xr_27_0, ↓xr_27_1_q, xr_27_1, ↓xg_11_q, xg_11, ↓xp_11_q, xp_11, ↓xr_29_0_q, xr_29_0, ↓xg_12_q, xg_12, ↓xp_12_q, xp_12, ↓xg_13_q, xg_13, ↓xp_13_q, xp_13, ↓xr_41_0_q, xr_41_0, ↓xr_41_1_q, xr_41_1, ↓xL_8_q, xL_8, ↓xS_8_q, xS_8, ↓xL_24_q, xL_24, ↓xS_24_q, xS_24, ↓xL_26_q, xL_26, ↓xS_26_q, xS_26, ↓xL_28_q, xL_28, ↓xS_28_q, xS_28, ↓xL_31_q, xL_31, ↓xS_31_q, xS_31, ↓xL_32_q, xL_32, ↓xS_32_q, xS_32, ↓xL_33_q, xL_33, ↓xS_33_q, xS_33, ↓xL_34_q, xL_34, ↓xS_34_q, xS_34, ↓xL_35_q, xL_35, ↓xS_35_q, xS_35, ↓xL_36_q, xL_36, ↓xS_36_q, xS_36, ↓xL_37_q, xL_37, ↓xS_37_q, xS_37, ↓xL_38_q, xL_38, ↓xS_38_q, xS_38, ↓xL_39_q, xL_39, ↓xS_39_q, xS_39, ↓xL_40_q, xL_40, ↓xS_40_q, xS_40, ↓xL_43_q, xL_43, ↓xS_43_q, xS_43, ↓xL_44_q, xL_44, ↓xS_44_q, xS_44, ↓xL_45_q, xL_45, ↓xS_45_q, xS_45, ↓xL_46_q, xL_46, ↓xS_46_q, xS_46, ↓xq_30_q, xq_30, ↓xq_42_q, xq_42, ↓xr_1_0_q, xr_1_0, ↓xr_1_1_q, xr_1_1, ↓xr_1_2_q, xr_1_2, ↓xr_1_3_q, xr_1_3, ↓xr_1_4_q, xr_1_4, ↓xh_1_0_q, xh_1_0, ↓xh_1_1_q, xh_1_1, ↓xh_1_2_q, xh_1_2, ↓xh_1_3_q, xh_1_3, ↓xh_1_4_q, xh_1_4, ↓xL_2_q, xL_2, ↓xL_3_q, xL_3, ↓xL_4_q, xL_4, ↓xL_5_q, xL_5, ↓xL_6_q, xL_6, ↓xr_10_0_q, xr_10_0, ↓xr_10_1_q, xr_10_1, ↓xr_10_2_q, xr_10_2, ↓xr_10_3_q, xr_10_3, ↓xr_10_4_q, xr_10_4, ↓xh_10_0_q, xh_10_0, ↓xh_10_1_q, xh_10_1, ↓xh_10_2_q, xh_10_2, ↓xh_10_3_q, xh_10_3, ↓xh_10_4_q, xh_10_4, ↓xL_11_q, xL_11, ↓xL_12_q, xL_12, ↓xL_13_q, xL_13, ↓xL_14_q, xL_14, ↓xL_15_q, xL_15, ↓xr_18_0_q, xr_18_0, ↓xr_18_1_q, xr_18_1, ↓xr_18_2_q, xr_18_2, ↓xr_18_3_q, xr_18_3, ↓xr_18_4_q, xr_18_4, ↓xh_18_0_q, xh_18_0, ↓xh_18_1_q, xh_18_1, ↓xh_18_2_q, xh_18_2, ↓xh_18_3_q, xh_18_3, ↓xh_18_4_q, xh_18_4, ↓xL_19_q, xL_19, ↓xL_20_q, xL_20, ↓xL_21_q, xL_21, ↓xL_22_q, xL_22, ↓xL_23_q, xL_23, xo_0, xo_7, xo_9, xo_16, xo_17, xo_25, xo_27, xo_29, xo_41, xo_1, xo_10, xo_18, uA_s, uA_n, uG_s, uG_n, ne_eq, Nat.reduceEqDiff, not_false_eq_true, cI_lt, cI_eq, ↓reduceIte, if_true, if_false, Nat.lt_irrefl, eq_self, Nat.reduceEqDiff, or_true, true_or, or_false, false_or, not_false_eq_true, not_true_eq_false, ce_5, zb_t, zb_f, h0]
      rfl
    · obtain ⟨X, hX, rfl⟩ := toN v h0
      by_cases h1 : X < (G 1).C
      · have e0 : nI X = nI X - nI 0 := (sub_nI0).symm
        have en : (nI (G 1).R) = nI ((G 1).R + 1) + -1 := (cI_m1 _).symm
        have hn : ¬ X < 0 := by omega
        have W := x_sbu2 (g := g) (d := d) (f := f) (q := q) (P := P) (B := B) (I := I) (A := A) hg hd0 hX (y := nI X) ((G 1).R + 1) 0 z_un (by omega) (by omega)
        rw [cI_m1, sub_nI0, uf_rnk h1 (by omega) fun t ht => Nat.lt_succ_of_le (u_le hg (by omega))] at W
        rw [← W]
        simp (disch := omega) only [ze_91_0, ze_91_1, ze_91_4, ze_91_5, ze_91_6, ze_91_9, ze_91_12, ze_91_15, ze_91_16, ze_91_17, ze_91_18, ze_91_19, ze_91_20, ze_91_23, ze_91_26, ze_91_28, ze_91_31, ze_91_32, ze_91_34, ze_91_36, ze_91_37, ze_91_40, ze_91_43, ze_91_46, ze_91_47, ze_91_50, ze_91_52, ze_91_55, ze_91_56, ze_91_59, ze_91_60, ze_91_63, ze_91_65, ze_91_66, ze_91_69, ze_91_72, ze_91_75, ze_91_78, ze_91_81, ze_91_82, z_k_r, z_push_s, z_push_n, okS_0, okS_I, okS_R, okS_A, List.getElem?_cons_zero, List.getElem?_cons_succ, List.length_cons, List.length_nil, List.set_cons_zero, List.set_cons_succ, true_and, and_true, z_tI, z_tB, pk_mul, nI_add, cI_cl, cI_ix, nar_0, nar_1, nar_b, Nat.reduceAdd, Nat.reduceLT, Nat.reduceMul, ↓xr_0_0_q, xr_0_0, ↓xr_0_1_q, xr_0_1, ↓xr_0_2_q, xr_0_2, ↓xr_0_3_q, xr_0_3, ↓xr_0_4_q, xr_0_4, ↓xr_0_5_q, xr_0_5, ↓xr_0_6_q, xr_0_6, ↓xr_0_7_q, xr_0_7, ↓xr_0_8_q, xr_0_8, ↓xr_0_9_q, xr_0_9, ↓xg_14_q, xg_14, ↓xp_14_q, xp_14, ↓xr_7_0_q, xr_7_0, ↓xg_0_q, xg_0, ↓xp_0_q, xp_0, ↓xg_1_q, xg_1, ↓xp_1_q, xp_1, ↓xg_2_q, xg_2, ↓xp_2_q, xp_2, ↓xg_3_q, xg_3, ↓xp_3_q, xp_3, ↓xg_4_q, xg_4, ↓xp_4_q, xp_4, ↓xg_5_q, xg_5, ↓xp_5_q, xp_5, ↓xr_9_0_q, xr_9_0, ↓xr_9_1_q, xr_9_1, ↓xg_6_q, xg_6, ↓xp_6_q, xp_6, ↓xg_7_q, xg_7, ↓xp_7_q, xp_7, ↓xr_16_0_q, xr_16_0, ↓xr_17_0_q, xr_17_0, ↓xr_17_1_q, xr_17_1, ↓xr_17_2_q, xr_17_2, ↓xg_8_q, xg_8, ↓xp_8_q, xp_8, ↓xr_25_0_q, xr_25_0, ↓xr_25_1_q, xr_25_1, ↓xg_9_q, xg_9, ↓xp_9_q, xp_9, ↓xg_10_q, xg_10, ↓xp_10_q, xp_10, ↓xr_27_0_q, xr_27_0, ↓xr_27_1_q, xr_27_1, ↓xg_11_q, xg_11, ↓xp_11_q, xp_11, ↓xr_29_0_q, xr_29_0, ↓xg_12_q, xg_12, ↓xp_12_q, xp_12, ↓xg_13_q, xg_13, ↓xp_13_q, xp_13, ↓xr_41_0_q, xr_41_0, ↓xr_41_1_q, xr_41_1, ↓xL_8_q, xL_8, ↓xS_8_q, xS_8, ↓xL_24_q, xL_24, ↓xS_24_q, xS_24, ↓xL_26_q, xL_26, ↓xS_26_q, xS_26, ↓xL_28_q, xL_28, ↓xS_28_q, xS_28, ↓xL_31_q, xL_31, ↓xS_31_q, xS_31, ↓xL_32_q, xL_32, ↓xS_32_q, xS_32, ↓xL_33_q, xL_33, ↓xS_33_q, xS_33, ↓xL_34_q, xL_34, ↓xS_34_q, xS_34, ↓xL_35_q, xL_35, ↓xS_35_q, xS_35, ↓xL_36_q, xL_36, ↓xS_36_q, xS_36, ↓xL_37_q, xL_37, ↓xS_37_q, xS_37, ↓xL_38_q, xL_38, ↓xS_38_q, xS_38, ↓xL_39_q, xL_39, ↓xS_39_q, xS_39, ↓xL_40_q, xL_40, ↓xS_40_q, xS_40, ↓xL_43_q, xL_43, ↓xS_43_q, xS_43, ↓xL_44_q, xL_44, ↓xS_44_q, xS_44, ↓xL_45_q, xL_45, ↓xS_45_q, xS_45, ↓xL_46_q, xL_46, ↓xS_46_q, xS_46, ↓xq_30_q, xq_30, ↓xq_42_q, xq_42, ↓xr_1_0_q, xr_1_0, ↓xr_1_1_q, xr_1_1, ↓xr_1_2_q, xr_1_2, ↓xr_1_3_q, xr_1_3, ↓xr_1_4_q, xr_1_4, ↓xh_1_0_q, xh_1_0, ↓xh_1_1_q, xh_1_1, ↓xh_1_2_q, xh_1_2, ↓xh_1_3_q, xh_1_3, ↓xh_1_4_q, xh_1_4, ↓xL_2_q, xL_2, ↓xL_3_q, xL_3, ↓xL_4_q, xL_4, ↓xL_5_q, xL_5, ↓xL_6_q, xL_6, ↓xr_10_0_q, xr_10_0, ↓xr_10_1_q, xr_10_1, ↓xr_10_2_q, xr_10_2, ↓xr_10_3_q, xr_10_3, ↓xr_10_4_q, xr_10_4, ↓xh_10_0_q, xh_10_0, ↓xh_10_1_q, xh_10_1, ↓xh_10_2_q, xh_10_2, ↓xh_10_3_q, xh_10_3, ↓xh_10_4_q, xh_10_4, ↓xL_11_q, xL_11, ↓xL_12_q, xL_12, ↓xL_13_q, xL_13, ↓xL_14_q, xL_14, ↓xL_15_q, xL_15, ↓xr_18_0_q, xr_18_0, ↓xr_18_1_q, xr_18_1, ↓xr_18_2_q, xr_18_2, ↓xr_18_3_q, xr_18_3, ↓xr_18_4_q, xr_18_4, ↓xh_18_0_q, xh_18_0, ↓xh_18_1_q, xh_18_1, ↓xh_18_2_q, xh_18_2, ↓xh_18_3_q, xh_18_3, ↓xh_18_4_q, xh_18_4, ↓xL_19_q, xL_19, ↓xL_20_q, xL_20, ↓xL_21_q, xL_21, ↓xL_22_q, xL_22, ↓xL_23_q, xL_23, xo_0, xo_7, xo_9, xo_16, xo_17, xo_25, xo_27, xo_29, xo_41, xo_1, xo_10, xo_18, uA_s, uA_n, uG_s, uG_n, ne_eq, Nat.reduceEqDiff, not_false_eq_true, cI_lt, cI_eq, ↓reduceIte, if_true, if_false, Nat.lt_irrefl, eq_self, Nat.reduceEqDiff, or_true, true_or, or_false, false_or, not_false_eq_true, not_true_eq_false, ce_5, zb_t, zb_f, hn, h1]
      · rw [bad (by unfold okN; rw [decide_eq_false (p := nI X < nI (G 1).C) (by rw [cI_lt hX (by omega)]; exact h1), Bool.and_false])]
        have h2 : ¬ X < 0 := by omega
        simp (disch := omega) only [ze_91_0, ze_91_1, ze_91_4, ze_91_5, ze_91_6, ze_91_9, ze_91_12, ze_91_15, ze_91_16, ze_91_17, ze_91_18, ze_91_19, ze_91_20, ze_91_23, ze_91_26, ze_91_27, ze_91_28, ze_91_31, ze_91_32, ze_91_34, ze_91_36, ze_91_37, ze_91_40, ze_91_43, ze_91_46, ze_91_47, ze_91_50, ze_91_52, ze_91_55, ze_91_56, ze_91_59, ze_91_60, ze_91_63, ze_91_65, ze_91_66, ze_91_69, ze_91_72, ze_91_75, ze_91_78, ze_91_81, ze_91_82, z_k_r, z_push_s, z_push_n, okS_0, okS_I, okS_R, okS_A, List.getElem?_cons_zero, List.getElem?_cons_succ, List.length_cons, List.length_nil, List.set_cons_zero, List.set_cons_succ, true_and, and_true, z_tI, z_tB, pk_mul, nI_add, cI_cl, cI_ix, nar_0, nar_1, nar_b, Nat.reduceAdd, Nat.reduceLT, Nat.reduceMul, ↓xr_0_0_q, xr_0_0, ↓xr_0_1_q, xr_0_1, ↓xr_0_2_q, xr_0_2, ↓xr_0_3_q, xr_0_3, ↓xr_0_4_q, xr_0_4, ↓xr_0_5_q, xr_0_5, ↓xr_0_6_q, xr_0_6, ↓xr_0_7_q, xr_0_7, ↓xr_0_8_q, xr_0_8, ↓xr_0_9_q, xr_0_9, ↓xg_14_q, xg_14, ↓xp_14_q, xp_14, ↓xr_7_0_q, xr_7_0, ↓xg_0_q, xg_0, ↓xp_0_q, xp_0, ↓xg_1_q, xg_1, ↓xp_1_q, xp_1, ↓xg_2_q, xg_2, ↓xp_2_q, xp_2, ↓xg_3_q, xg_3, ↓xp_3_q, xp_3, ↓xg_4_q, xg_4, ↓xp_4_q, xp_4, ↓xg_5_q, xg_5, ↓xp_5_q, xp_5, ↓xr_9_0_q, xr_9_0, ↓xr_9_1_q, xr_9_1, ↓xg_6_q, xg_6, ↓xp_6_q, xp_6, ↓xg_7_q, xg_7, ↓xp_7_q, xp_7, ↓xr_16_0_q, xr_16_0, ↓xr_17_0_q, xr_17_0, ↓xr_17_1_q, xr_17_1, ↓xr_17_2_q, xr_17_2, ↓xg_8_q, xg_8, ↓xp_8_q, xp_8, ↓xr_25_0_q, xr_25_0, ↓xr_25_1_q, xr_25_1, ↓xg_9_q, xg_9, ↓xp_9_q, xp_9, ↓xg_10_q, xg_10, ↓xp_10_q, xp_10, ↓xr_27_0_q, xr_27_0, ↓xr_27_1_q, xr_27_1, ↓xg_11_q, xg_11, ↓xp_11_q, xp_11, ↓xr_29_0_q, xr_29_0, ↓xg_12_q, xg_12, ↓xp_12_q, xp_12, ↓xg_13_q, xg_13, ↓xp_13_q, xp_13, ↓xr_41_0_q, xr_41_0, ↓xr_41_1_q, xr_41_1, ↓xL_8_q, xL_8, ↓xS_8_q, xS_8, ↓xL_24_q, xL_24, ↓xS_24_q, xS_24, ↓xL_26_q, xL_26, ↓xS_26_q, xS_26, ↓xL_28_q, xL_28, ↓xS_28_q, xS_28, ↓xL_31_q, xL_31, ↓xS_31_q, xS_31, ↓xL_32_q, xL_32, ↓xS_32_q, xS_32, ↓xL_33_q, xL_33, ↓xS_33_q, xS_33, ↓xL_34_q, xL_34, ↓xS_34_q, xS_34, ↓xL_35_q, xL_35, ↓xS_35_q, xS_35, ↓xL_36_q, xL_36, ↓xS_36_q, xS_36, ↓xL_37_q, xL_37, ↓xS_37_q, xS_37, ↓xL_38_q, xL_38, ↓xS_38_q, xS_38, ↓xL_39_q, xL_39, ↓xS_39_q, xS_39, ↓xL_40_q, xL_40, ↓xS_40_q, xS_40, ↓xL_43_q, xL_43, ↓xS_43_q, xS_43, ↓xL_44_q, xL_44, ↓xS_44_q, xS_44, ↓xL_45_q, xL_45, ↓xS_45_q, xS_45, ↓xL_46_q, xL_46, ↓xS_46_q, xS_46, ↓xq_30_q, xq_30, ↓xq_42_q, xq_42, ↓xr_1_0_q, xr_1_0, ↓xr_1_1_q, xr_1_1, ↓xr_1_2_q, xr_1_2, ↓xr_1_3_q, xr_1_3, ↓xr_1_4_q, xr_1_4, ↓xh_1_0_q, xh_1_0, ↓xh_1_1_q, xh_1_1, ↓xh_1_2_q, xh_1_2, ↓xh_1_3_q, xh_1_3, ↓xh_1_4_q, xh_1_4, ↓xL_2_q, xL_2, ↓xL_3_q, xL_3, ↓xL_4_q, xL_4, ↓xL_5_q, xL_5, ↓xL_6_q, xL_6, ↓xr_10_0_q, xr_10_0, ↓xr_10_1_q, xr_10_1, ↓xr_10_2_q, xr_10_2, ↓xr_10_3_q, xr_10_3, ↓xr_10_4_q, xr_10_4, ↓xh_10_0_q, xh_10_0, ↓xh_10_1_q, xh_10_1, ↓xh_10_2_q, xh_10_2, ↓xh_10_3_q, xh_10_3, ↓xh_10_4_q, xh_10_4, ↓xL_11_q, xL_11, ↓xL_12_q, xL_12, ↓xL_13_q, xL_13, ↓xL_14_q, xL_14, ↓xL_15_q, xL_15, ↓xr_18_0_q, xr_18_0, ↓xr_18_1_q, xr_18_1, ↓xr_18_2_q, xr_18_2, ↓xr_18_3_q, xr_18_3, ↓xr_18_4_q, xr_18_4, ↓xh_18_0_q, xh_18_0, ↓xh_18_1_q, xh_18_1, ↓xh_18_2_q, xh_18_2, ↓xh_18_3_q, xh_18_3, ↓xh_18_4_q, xh_18_4, ↓xL_19_q, xL_19, ↓xL_20_q, xL_20, ↓xL_21_q, xL_21, ↓xL_22_q, xL_22, ↓xL_23_q, xL_23, xo_0, xo_7, xo_9, xo_16, xo_17, xo_25, xo_27, xo_29, xo_41, xo_1, xo_10, xo_18, uA_s, uA_n, uG_s, uG_n, ne_eq, Nat.reduceEqDiff, not_false_eq_true, cI_lt, cI_eq, ↓reduceIte, if_true, if_false, Nat.lt_irrefl, eq_self, Nat.reduceEqDiff, or_true, true_or, or_false, false_or, not_false_eq_true, not_true_eq_false, ce_5, zb_t, zb_f, h1, h2]
        rfl
  · rw [zn_166]
    simp (disch := omega) only [ze_166_0, ze_166_1, ze_166_2, ze_166_5, ze_166_6, ze_166_8, ze_166_9, ze_166_12, ze_166_15, ze_166_16, ze_166_17, ze_166_18, ze_166_20, ze_166_22, ze_166_23, ze_166_26, ze_166_29, ze_166_30, ze_166_31, ze_166_33, ze_166_36, ze_166_37, ze_166_38, ze_166_41, ze_166_44, ze_166_45, ze_166_47, ze_166_50, ze_166_51, ze_166_52, ze_166_55, ze_166_58, ze_166_60, ze_166_61, ze_166_64, ze_166_65, ze_166_68, ze_166_69, ze_166_70, ze_166_71, ze_166_74, ze_166_77, ze_166_78, ze_166_79, ze_166_82, ze_166_83, ze_166_84, ze_166_87, ze_166_90, ze_166_91, z_k_r, z_push_s, z_push_n, okS_0, okS_I, okS_R, okS_A, List.getElem?_cons_zero, List.getElem?_cons_succ, List.length_cons, List.length_nil, List.set_cons_zero, List.set_cons_succ, true_and, and_true, z_tI, z_tB, pk_mul, nI_add, cI_cl, cI_ix, nar_0, nar_1, nar_b, Nat.reduceAdd, Nat.reduceLT, Nat.reduceMul, ↓mg_0_q, mg_0, ↓mp_0_q, mp_0, ↓mg_1_q, mg_1, ↓mp_1_q, mp_1, ↓mg_2_q, mg_2, ↓mp_2_q, mp_2, ↓mg_3_q, mg_3, ↓mp_3_q, mp_3, ↓mg_4_q, mg_4, ↓mp_4_q, mp_4, ↓mg_5_q, mg_5, ↓mp_5_q, mp_5, ↓mg_6_q, mg_6, ↓mp_6_q, mp_6, ↓mg_7_q, mg_7, ↓mg_8_q, mg_8, ↓mg_9_q, mg_9, ↓mg_10_q, mg_10, ↓mg_11_q, mg_11, ↓mg_12_q, mg_12, ↓mg_13_q, mg_13, ↓mp_13_q, mp_13, ↓mg_14_q, mg_14, ↓mp_14_q, mp_14, ↓mg_15_q, mg_15, ↓mp_15_q, mp_15, ↓mg_16_q, mg_16, ↓mp_16_q, mp_16, ↓mg_17_q, mg_17, ↓mp_17_q, mp_17, ↓mg_18_q, mg_18, ↓mp_18_q, mp_18, ↓mg_19_q, mg_19, ↓mp_19_q, mp_19, ↓mg_20_q, mg_20, ↓mp_20_q, mp_20, ↓mg_21_q, mg_21, ↓mp_21_q, mp_21, ↓mg_22_q, mg_22, ↓mg_23_q, mg_23, ↓mp_23_q, mp_23, ↓mg_24_q, mg_24, ↓mg_25_q, mg_25, ↓mg_26_q, mg_26, ↓mg_27_q, mg_27, ↓mg_28_q, mg_28, ↓mL_1_q, mL_1, ↓mS_1_q, mS_1, ↓mL_2_q, mL_2, ↓mS_2_q, mS_2, ↓mL_3_q, mL_3, ↓mS_3_q, mS_3, ↓mL_4_q, mL_4, ↓mS_4_q, mS_4, ↓mL_5_q, mL_5, ↓mS_5_q, mS_5, ↓mL_6_q, mL_6, ↓mS_6_q, mS_6, ↓mL_7_q, mL_7, ↓mS_7_q, mS_7, ↓mL_8_q, mL_8, ↓mS_8_q, mS_8, ↓mL_9_q, mL_9, ↓mS_9_q, mS_9, ↓mL_10_q, mL_10, ↓mS_10_q, mS_10, ↓mL_11_q, mL_11, ↓mS_11_q, mS_11, ↓mL_12_q, mL_12, ↓mS_12_q, mS_12, m_gO, uA_s, uA_n]
    exact m_sbu2 hM hg (by omega) (G 1).C 0 _ _ (Nat.zero_add _)
end
