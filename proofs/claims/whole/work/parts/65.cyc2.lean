/-! cycles in their order: the class -/
/-- a cycle's number: size, a, b, beginning -/
def GS.pc (S : GS) (i : Nat) : Bool := decide (i / 25 % 5 < i / 5 % 5) && decide (i / 5 % 5 < S.R) && S.fl (i / 25 % 5) && S.fl (i / 5 % 5) && decide (i % 5 < S.C) && decide (pop (S.cyc (i / 25 % 5) (i / 5 % 5) (i % 5)) = i / 125) && decide (low (S.cyc (i / 25 % 5) (i / 5 % 5) (i % 5)) = i % 5)
def dg (i : Nat) : Nat := i / 125 * 1000 + i / 25 % 5 * 100 + i / 5 % 5 * 10 + i % 5
theorem dg_lt {i j : Nat} (h : i < j) : dg i < dg j := by
  unfold dg
  omega
theorem dg_b {i : Nat} (h : i < 750) : dg i < 6000 := by
  unfold dg
  omega
theorem cI_m1 (p : Nat) : nI (p + 1) + -1 = nI p := by
  have e : (-1 : Int32) = -(nI 1) := by decide
  rw [e, ← Int32.sub_eq_add_neg, cI_sub (by omega)]
  congr 1
theorem low_is {p : Nat → Bool} {c : Nat} (hc : c < 5) (h : p c = true) (h2 : ∀ i, i < c → p i = false) : low p = c := by
  have ne : low p ≠ 5 := fun z => by
    have := low_5.mp z c hc
    rw [h] at this
    cases this
  obtain ⟨l1, l2, l3⟩ := low_sp ne
  by_cases e : low p < c
  · rw [h2 _ e] at l2
    cases l2
  · by_cases e2 : c < low p
    · rw [l3 _ e2] at h
      cases h
    · omega
theorem low_le {p : Nat → Bool} {c : Nat} (hc : c < 5) (h : p c = true) : low p ≤ c := by
  have ne : low p ≠ 5 := fun z => by
    have := low_5.mp z c hc
    rw [h] at this
    cases this
  obtain ⟨l1, l2, l3⟩ := low_sp ne
  apply Classical.byContradiction
  intro z
  rw [l3 c (by omega)] at h
  cases h
theorem kf_sorted {p : Nat → Bool} {e : Nat → Nat} {cnt X : Nat} (hX : X < 2147483648) (hcn : cnt < 1000) (mono : ∀ i j, i < j → j < cnt → e i < e j) : ∀ (k i n : Nat), (∀ idx, i ≤ idx → idx < i + k → (p idx = true ↔ ∃ j, j < cnt ∧ e j = idx)) → (∀ j, j < cnt → (j < n ↔ e j < i)) → (∀ j, j < cnt → e j < i + k) → n ≤ cnt → n ≤ X → kf p (nI X) i k n = if X < cnt then some (e X) else none
  | 0, i, n, h1, h2, h3, h4, h5 => by
    have : n = cnt := by
      apply Classical.byContradiction
      intro z
      have a := h3 n (by omega)
      have := (h2 n (by omega)).mpr (by omega)
      omega
    rw [if_neg (by omega)]
    rfl
  | k + 1, i, n, h1, h2, h3, h4, h5 => by
    unfold kf
    by_cases q : p i = true
    · rw [if_pos q]
      obtain ⟨j, j1, j2⟩ := (h1 i (Nat.le_refl _) (by omega)).mp q
      have jn : j = n := by
        have a1 : ¬ j < n := fun z => by
          have := (h2 j j1).mp z
          omega
        apply Classical.byContradiction
        intro z
        have a2 := mono n j (by omega) j1
        have := (h2 n (by omega)).mpr (by omega)
        omega
      subst jn
      by_cases q2 : X = j
      · subst q2
        rw [if_pos rfl, if_pos j1, j2]
      · have : ¬ nI X = nI j := by
          rw [cI_eq hX (by omega)]
          exact q2
        rw [if_neg this]
        refine kf_sorted hX hcn mono k (i + 1) (j + 1) (fun idx a b => h1 idx (by omega) (by omega)) (fun j' hj' => ?_) (fun j' hj' => by have := h3 j' hj'; omega) (by omega) (by omega)
        have a1 := h2 j' hj'
        constructor
        · intro z
          by_cases z2 : j' = j
          · rw [z2]; omega
          · have := a1.mp (by omega); omega
        · intro z
          by_cases z2 : j < j'
          · have := mono j j' z2 hj'; omega
          · omega
    · rw [if_neg q]
      refine kf_sorted hX hcn mono k (i + 1) n (fun idx a b => h1 idx (by omega) (by omega)) (fun j' hj' => ?_) (fun j' hj' => by have := h3 j' hj'; omega) h4 h5
      have a1 := h2 j' hj'
      constructor
      · intro z
        have := a1.mp z
        omega
      · intro z
        refine a1.mpr ?_
        by_cases z2 : e j' = i
        · exact absurd ((h1 i (Nat.le_refl _) (by omega)).mpr ⟨j', hj', z2⟩) q
        · omega
/-- e holds, in their order, the cycles of pairs and columns below L -/
def SO (S : GS) (F : Nat → Int32) (e : Nat → Nat) (cnt L : Nat) : Prop := (∀ i j, i < j → j < cnt → e i < e j) ∧ (∀ k, k < cnt → F k = nI (dg (e k))) ∧ (∀ k, k < cnt → e k < 750) ∧ (∀ i, i < 750 → ((∃ j, j < cnt ∧ e j = i) ↔ (S.pc i = true ∧ i % 125 < L)))
theorem SO_skip {S : GS} {F : Nat → Int32} {e : Nat → Nat} {cnt L L' : Nat} (h : SO S F e cnt L) (hL : L ≤ L') (hn : ∀ i, i < 750 → L ≤ i % 125 → i % 125 < L' → S.pc i = false) : SO S F e cnt L' := by
  obtain ⟨h1, h2, h3, h4⟩ := h
  refine ⟨h1, h2, h3, fun i hi => ?_⟩
  rw [h4 i hi]
  constructor
  · rintro ⟨a, b⟩
    exact ⟨a, by omega⟩
  · rintro ⟨a, b⟩
    refine ⟨a, ?_⟩
    apply Classical.byContradiction
    intro z
    rw [hn i hi (by omega) b] at a
    cases a
section
variable {g : z_G} {d : Nat} {f : Nat → Option z_C} {q : Option Nat × Nat × Nat} {P : z_Res → Prop} {B : Nat} {G : Nat → GS} {I : Nat → Int32} {A : Nat → Nat → Int32}
def insF (F : Nat → Int32) (e : Nat → Nat) (cnt p : Nat) : Nat → Int32 := fun k => if p < k ∧ k ≤ cnt then nI (dg (e (k - 1))) else F k
theorem insF_step {F : Nat → Int32} {e : Nat → Nat} {cnt p : Nat} (hp : p + 1 ≤ cnt) (hF : F p = nI (dg (e p))) : upd (insF F e cnt (p + 1)) (p + 1) (insF F e cnt (p + 1) p) = insF F e cnt p := by
  funext k
  by_cases q : k = p + 1
  · subst q
    rw [upd_at]
    unfold insF
    rw [if_neg (by omega), if_pos (by omega), hF]
    rfl
  · rw [upd_ne q]
    unfold insF
    have : (p + 1 < k ∧ k ≤ cnt) = (p < k ∧ k ≤ cnt) := propext (by omega)
    simp only [this]
theorem y_ins1 {F : Nat → Int32} {e : Nat → Nat} {cnt x : Nat} (hc : cnt < 20) (hI : I 11 = nI cnt) (hF : ∀ k, k < cnt → F k = nI (dg (e k))) (he : ∀ k, k < cnt → e k < 750) (mono : ∀ i j, i < j → j < cnt → e i < e j) (hx : x < 750) (hn : ∀ j, j < cnt → e j ≠ x) : ∀ (p : Nat), p ≤ cnt → (∀ j, p ≤ j → j < cnt → x < e j) → ∃ p', p' ≤ cnt ∧ (∀ j, j < p' → e j < x) ∧ (∀ j, p' ≤ j → j < cnt → x < e j) ∧ ∀ (q : Option Nat × Nat × Nat) (P : z_Res → Prop), z_T g d 14 15 [.ref (B + 27), .int (nI (dg x)), .int (nI p)] [] (xw f B G I (uA A 28 (insF F e cnt p)), q) P = P (.inr none, (xw f B G (upd I 11 (nI (cnt + 1))) (uA A 28 (upd (insF F e cnt p') p' (nI (dg x)))), q))
  | 0, h, hp => by
    refine ⟨0, h, fun j hj => by omega, hp, fun q P => ?_⟩
    have hd := dg_b hx
    rw [ze_14_15]
    simp (disch := omega) only [ze_14_0, ze_14_1, ze_14_4, ze_14_6, ze_14_9, ze_14_10, ze_14_11, ze_14_14, ze_14_16, ze_14_19, ze_14_20, ze_14_23, ze_14_24, ze_14_25, ze_14_26, ze_14_27, ze_14_28, ze_14_31, ze_14_32, ze_14_35, ze_14_36, ze_14_37, ze_14_40, ze_14_41, ze_14_42, ze_14_43, ze_14_44, ze_14_45, ze_14_48, ze_14_51, ze_14_52, ze_14_55, ze_14_56, ze_14_57, ze_14_58, ze_14_59, ze_14_59_i, ze_14_60, ze_14_63, ze_14_64, ze_14_65, ze_14_68, z_k_r, z_push_s, z_push_n, okS_0, okS_I, okS_R, okS_A, List.getElem?_cons_zero, List.getElem?_cons_succ, List.length_cons, List.length_nil, List.set_cons_zero, List.set_cons_succ, true_and, and_true, z_tI, z_tB, pk_mul, nI_add, cI_cl, cI_ix, nar_0, nar_1, nar_b, Nat.reduceAdd, Nat.reduceLT, Nat.reduceMul, ↓xr_0_0, ↓xr_0_1, ↓xr_0_2, ↓xr_0_3, ↓xr_0_4, ↓xr_0_5, ↓xr_0_6, ↓xr_0_7, ↓xr_0_8, ↓xr_0_9, ↓xg_14, xp_14, xo_0, ↓xr_7_0, ↓xg_0, xp_0, ↓xg_1, xp_1, ↓xg_2, xp_2, ↓xg_3, xp_3, ↓xg_4, xp_4, ↓xg_5, xp_5, xo_7, ↓xr_9_0, ↓xr_9_1, ↓xg_6, xp_6, ↓xg_7, xp_7, xo_9, ↓xr_16_0, xo_16, ↓xr_17_0, ↓xr_17_1, ↓xr_17_2, ↓xg_8, xp_8, xo_17, ↓xr_25_0, ↓xr_25_1, ↓xg_9, xp_9, ↓xg_10, xp_10, xo_25, ↓xr_27_0, ↓xr_27_1, ↓xg_11, xp_11, xo_27, ↓xr_29_0, ↓xg_12, xp_12, ↓xg_13, xp_13, xo_29, ↓xr_41_0, ↓xr_41_1, xo_41, xL_8, xS_8, xL_24, xS_24, xL_26, xS_26, xL_28, xS_28, xL_31, xS_31, xL_32, xS_32, xL_33, xS_33, xL_34, xS_34, xL_35, xS_35, xL_36, xS_36, xL_37, xS_37, xL_38, xS_38, xL_39, xS_39, xL_40, xS_40, xL_43, xS_43, xL_44, xS_44, xL_45, xS_45, xL_46, xS_46, xq_30, xq_42, ↓xr_1_0, ↓xr_1_1, ↓xr_1_2, ↓xr_1_3, ↓xr_1_4, ↓xh_1_0, ↓xh_1_1, ↓xh_1_2, ↓xh_1_3, ↓xh_1_4, xo_1, xL_2, xL_3, xL_4, xL_5, xL_6, ↓xr_10_0, ↓xr_10_1, ↓xr_10_2, ↓xr_10_3, ↓xr_10_4, ↓xh_10_0, ↓xh_10_1, ↓xh_10_2, ↓xh_10_3, ↓xh_10_4, xo_10, xL_11, xL_12, xL_13, xL_14, xL_15, ↓xr_18_0, ↓xr_18_1, ↓xr_18_2, ↓xr_18_3, ↓xr_18_4, ↓xh_18_0, ↓xh_18_1, ↓xh_18_2, ↓xh_18_3, ↓xh_18_4, xo_18, xL_19, xL_20, xL_21, xL_22, xL_23, uA_s, uA_n, uG_s, uG_n, ne_eq, Nat.reduceEqDiff, not_false_eq_true, cI_lt, cI_eq, ↓reduceIte, if_true, if_false, Nat.lt_irrefl, eq_self, Nat.reduceEqDiff, or_true, true_or, or_false, false_or, not_false_eq_true, not_true_eq_false, ce_5, zb_t, zb_f, hI, uA_uA]
  | p + 1, h, hp => by
    have hd := dg_b hx
    have hd2 := dg_b (he p (by omega))
    have e0 : insF F e cnt (p + 1) p = nI (dg (e p)) := by
      unfold insF
      rw [if_neg (by omega), hF p (by omega)]
    have e1 : nI (p + 1) - nI 1 = nI p := by rw [cI_sub (by omega)]; rfl
    by_cases z : e p < x
    · have zz := dg_lt z
      refine ⟨p + 1, h, fun j hj => ?_, hp, fun q P => ?_⟩
      · by_cases z2 : j = p
        · rw [z2]; exact z
        · have := mono j p (by omega) (by omega); omega
      · rw [ze_14_15]
        have : ¬ dg x < dg (e p) := by omega
        simp (disch := omega) only [ze_14_0, ze_14_1, ze_14_4, ze_14_6, ze_14_9, ze_14_10, ze_14_11, ze_14_14, ze_14_16, ze_14_19, ze_14_20, ze_14_23, ze_14_24, ze_14_25, ze_14_26, ze_14_27, ze_14_28, ze_14_31, ze_14_32, ze_14_35, ze_14_36, ze_14_37, ze_14_40, ze_14_41, ze_14_42, ze_14_43, ze_14_44, ze_14_45, ze_14_48, ze_14_51, ze_14_52, ze_14_55, ze_14_56, ze_14_57, ze_14_58, ze_14_59, ze_14_59_i, ze_14_60, ze_14_63, ze_14_64, ze_14_65, ze_14_68, z_k_r, z_push_s, z_push_n, okS_0, okS_I, okS_R, okS_A, List.getElem?_cons_zero, List.getElem?_cons_succ, List.length_cons, List.length_nil, List.set_cons_zero, List.set_cons_succ, true_and, and_true, z_tI, z_tB, pk_mul, nI_add, cI_cl, cI_ix, nar_0, nar_1, nar_b, Nat.reduceAdd, Nat.reduceLT, Nat.reduceMul, ↓xr_0_0, ↓xr_0_1, ↓xr_0_2, ↓xr_0_3, ↓xr_0_4, ↓xr_0_5, ↓xr_0_6, ↓xr_0_7, ↓xr_0_8, ↓xr_0_9, ↓xg_14, xp_14, xo_0, ↓xr_7_0, ↓xg_0, xp_0, ↓xg_1, xp_1, ↓xg_2, xp_2, ↓xg_3, xp_3, ↓xg_4, xp_4, ↓xg_5, xp_5, xo_7, ↓xr_9_0, ↓xr_9_1, ↓xg_6, xp_6, ↓xg_7, xp_7, xo_9, ↓xr_16_0, xo_16, ↓xr_17_0, ↓xr_17_1, ↓xr_17_2, ↓xg_8, xp_8, xo_17, ↓xr_25_0, ↓xr_25_1, ↓xg_9, xp_9, ↓xg_10, xp_10, xo_25, ↓xr_27_0, ↓xr_27_1, ↓xg_11, xp_11, xo_27, ↓xr_29_0, ↓xg_12, xp_12, ↓xg_13, xp_13, xo_29, ↓xr_41_0, ↓xr_41_1, xo_41, xL_8, xS_8, xL_24, xS_24, xL_26, xS_26, xL_28, xS_28, xL_31, xS_31, xL_32, xS_32, xL_33, xS_33, xL_34, xS_34, xL_35, xS_35, xL_36, xS_36, xL_37, xS_37, xL_38, xS_38, xL_39, xS_39, xL_40, xS_40, xL_43, xS_43, xL_44, xS_44, xL_45, xS_45, xL_46, xS_46, xq_30, xq_42, ↓xr_1_0, ↓xr_1_1, ↓xr_1_2, ↓xr_1_3, ↓xr_1_4, ↓xh_1_0, ↓xh_1_1, ↓xh_1_2, ↓xh_1_3, ↓xh_1_4, xo_1, xL_2, xL_3, xL_4, xL_5, xL_6, ↓xr_10_0, ↓xr_10_1, ↓xr_10_2, ↓xr_10_3, ↓xr_10_4, ↓xh_10_0, ↓xh_10_1, ↓xh_10_2, ↓xh_10_3, ↓xh_10_4, xo_10, xL_11, xL_12, xL_13, xL_14, xL_15, ↓xr_18_0, ↓xr_18_1, ↓xr_18_2, ↓xr_18_3, ↓xr_18_4, ↓xh_18_0, ↓xh_18_1, ↓xh_18_2, ↓xh_18_3, ↓xh_18_4, xo_18, xL_19, xL_20, xL_21, xL_22, xL_23, uA_s, uA_n, uG_s, uG_n, ne_eq, Nat.reduceEqDiff, not_false_eq_true, cI_lt, cI_eq, ↓reduceIte, if_true, if_false, Nat.lt_irrefl, eq_self, Nat.reduceEqDiff, or_true, true_or, or_false, false_or, not_false_eq_true, not_true_eq_false, ce_5, zb_t, zb_f, hI, uA_uA, e1, e0, this, Nat.succ_pos]
    · have z' : x < e p := by have := hn p (by omega); omega
      have zz := dg_lt z'
      obtain ⟨p', p1, p2, p3, p4⟩ := y_ins1 hc hI hF he mono hx hn p (by omega) (fun j a b => by
        by_cases z2 : j = p
        · rw [z2]; exact z'
        · exact hp j (by omega) b)
      refine ⟨p', p1, p2, p3, fun q P => ?_⟩
      have e2 : upd (insF F e cnt (p + 1)) (p + 1) (nI (dg (e p))) = insF F e cnt p := by
        rw [← insF_step (F := F) (e := e) h (hF p (by omega)), e0]
      have e3 : nI (p + 1) + -1 = nI p := cI_m1 p
      rw [← p4 q P, ze_14_15]
      simp (disch := omega) only [ze_14_0, ze_14_1, ze_14_4, ze_14_6, ze_14_9, ze_14_10, ze_14_11, ze_14_14, ze_14_16, ze_14_19, ze_14_20, ze_14_23, ze_14_24, ze_14_25, ze_14_26, ze_14_27, ze_14_28, ze_14_31, ze_14_32, ze_14_35, ze_14_36, ze_14_37, ze_14_40, ze_14_41, ze_14_42, ze_14_43, ze_14_44, ze_14_45, ze_14_48, ze_14_51, ze_14_52, ze_14_55, ze_14_56, ze_14_57, ze_14_58, ze_14_59, ze_14_59_i, ze_14_60, ze_14_63, ze_14_64, ze_14_65, ze_14_68, z_k_r, z_push_s, z_push_n, okS_0, okS_I, okS_R, okS_A, List.getElem?_cons_zero, List.getElem?_cons_succ, List.length_cons, List.length_nil, List.set_cons_zero, List.set_cons_succ, true_and, and_true, z_tI, z_tB, pk_mul, nI_add, cI_cl, cI_ix, nar_0, nar_1, nar_b, Nat.reduceAdd, Nat.reduceLT, Nat.reduceMul, ↓xr_0_0, ↓xr_0_1, ↓xr_0_2, ↓xr_0_3, ↓xr_0_4, ↓xr_0_5, ↓xr_0_6, ↓xr_0_7, ↓xr_0_8, ↓xr_0_9, ↓xg_14, xp_14, xo_0, ↓xr_7_0, ↓xg_0, xp_0, ↓xg_1, xp_1, ↓xg_2, xp_2, ↓xg_3, xp_3, ↓xg_4, xp_4, ↓xg_5, xp_5, xo_7, ↓xr_9_0, ↓xr_9_1, ↓xg_6, xp_6, ↓xg_7, xp_7, xo_9, ↓xr_16_0, xo_16, ↓xr_17_0, ↓xr_17_1, ↓xr_17_2, ↓xg_8, xp_8, xo_17, ↓xr_25_0, ↓xr_25_1, ↓xg_9, xp_9, ↓xg_10, xp_10, xo_25, ↓xr_27_0, ↓xr_27_1, ↓xg_11, xp_11, xo_27, ↓xr_29_0, ↓xg_12, xp_12, ↓xg_13, xp_13, xo_29, ↓xr_41_0, ↓xr_41_1, xo_41, xL_8, xS_8, xL_24, xS_24, xL_26, xS_26, xL_28, xS_28, xL_31, xS_31, xL_32, xS_32, xL_33, xS_33, xL_34, xS_34, xL_35, xS_35, xL_36, xS_36, xL_37, xS_37, xL_38, xS_38, xL_39, xS_39, xL_40, xS_40, xL_43, xS_43, xL_44, xS_44, xL_45, xS_45, xL_46, xS_46, xq_30, xq_42, ↓xr_1_0, ↓xr_1_1, ↓xr_1_2, ↓xr_1_3, ↓xr_1_4, ↓xh_1_0, ↓xh_1_1, ↓xh_1_2, ↓xh_1_3, ↓xh_1_4, xo_1, xL_2, xL_3, xL_4, xL_5, xL_6, ↓xr_10_0, ↓xr_10_1, ↓xr_10_2, ↓xr_10_3, ↓xr_10_4, ↓xh_10_0, ↓xh_10_1, ↓xh_10_2, ↓xh_10_3, ↓xh_10_4, xo_10, xL_11, xL_12, xL_13, xL_14, xL_15, ↓xr_18_0, ↓xr_18_1, ↓xr_18_2, ↓xr_18_3, ↓xr_18_4, ↓xh_18_0, ↓xh_18_1, ↓xh_18_2, ↓xh_18_3, ↓xh_18_4, xo_18, xL_19, xL_20, xL_21, xL_22, xL_23, uA_s, uA_n, uG_s, uG_n, ne_eq, Nat.reduceEqDiff, not_false_eq_true, cI_lt, cI_eq, ↓reduceIte, if_true, if_false, Nat.lt_irrefl, eq_self, Nat.reduceEqDiff, or_true, true_or, or_false, false_or, not_false_eq_true, not_true_eq_false, ce_5, zb_t, zb_f, hI, uA_uA, e1, e0, zz, Nat.succ_pos, e2, e3]
def insE (e : Nat → Nat) (p x : Nat) : Nat → Nat := fun k => if k < p then e k else if k = p then x else e (k - 1)
theorem y_ins {S : GS} {e : Nat → Nat} {cnt L x : Nat} (hc : cnt < 20) (hI : I 11 = nI cnt) (hS : SO S (A 28) e cnt L) (hx : x < 750) (hL : x % 125 = L) (hpc : ∀ i, i < 750 → i % 125 = L → (S.pc i = true ↔ i = x)) : ∃ F' e', SO S F' e' (cnt + 1) (L + 1) ∧ ∀ (q : Option Nat × Nat × Nat) (P : z_Res → Prop), z_Ca g d 14 [.ref (B + 27), .int (nI (dg x))] (xw f B G I A, q) P = P (.inr none, (xw f B G (upd I 11 (nI (cnt + 1))) (uA A 28 F'), q)) := by
  obtain ⟨h1, h2, h3, h4⟩ := hS
  have hn : ∀ j, j < cnt → e j ≠ x := fun j hj z => by
    have := ((h4 x hx).mp ⟨j, hj, z⟩).2
    omega
  obtain ⟨p, p0, p1, p2, p3⟩ := y_ins1 (g := g) (d := d) (f := f) (B := B) (G := G) (A := A) hc hI h2 h3 h1 hx hn cnt (Nat.le_refl _) (fun j a b => by omega)
  refine ⟨upd (insF (A 28) e cnt p) p (nI (dg x)), insE e p x, ⟨fun i j hij hj => ?_, fun k hk => ?_, fun k hk => ?_, fun i hi => ?_⟩, fun q P => ?_⟩
  · unfold insE
    by_cases a1 : i < p
    · rw [if_pos a1]
      by_cases a2 : j < p
      · rw [if_pos a2]
        exact h1 i j hij (by omega)
      · rw [if_neg a2]
        by_cases a3 : j = p
        · rw [if_pos a3]
          exact p1 i a1
        · rw [if_neg a3]
          exact h1 i (j - 1) (by omega) (by omega)
    · rw [if_neg a1, if_neg (show ¬ j < p by omega)]
      by_cases a3 : i = p
      · rw [if_pos a3, if_neg (by omega)]
        exact p2 (j - 1) (by omega) (by omega)
      · rw [if_neg a3, if_neg (by omega)]
        exact h1 (i - 1) (j - 1) (by omega) (by omega)
  · unfold insE
    by_cases a1 : k < p
    · rw [if_pos a1, upd_ne (by omega)]
      unfold insF
      rw [if_neg (by omega), h2 k (by omega)]
    · rw [if_neg a1]
      by_cases a2 : k = p
      · rw [if_pos a2, a2, upd_at]
      · rw [if_neg a2, upd_ne a2]
        unfold insF
        rw [if_pos (by omega)]
  · unfold insE
    split
    · exact h3 k (by omega)
    · split
      · exact hx
      · exact h3 (k - 1) (by omega)
  · have old := h4 i hi
    constructor
    · rintro ⟨j, j1, j2⟩
      unfold insE at j2
      by_cases a1 : j < p
      · rw [if_pos a1] at j2
        obtain ⟨b1, b2⟩ := old.mp ⟨j, by omega, j2⟩
        exact ⟨b1, by omega⟩
      · rw [if_neg a1] at j2
        by_cases a2 : j = p
        · rw [if_pos a2] at j2
          subst j2
          exact ⟨(hpc x hi hL).mpr rfl, by omega⟩
        · rw [if_neg a2] at j2
          obtain ⟨b1, b2⟩ := old.mp ⟨j - 1, by omega, j2⟩
          exact ⟨b1, by omega⟩
    · rintro ⟨b1, b2⟩
      by_cases a1 : i % 125 = L
      · have := (hpc i hi a1).mp b1
        refine ⟨p, by omega, ?_⟩
        unfold insE
        rw [if_neg (by omega), if_pos rfl, this]
      · obtain ⟨j, j1, j2⟩ := old.mpr ⟨b1, by omega⟩
        by_cases a2 : j < p
        · refine ⟨j, by omega, ?_⟩
          unfold insE
          rw [if_pos a2, j2]
        · refine ⟨j + 1, by omega, ?_⟩
          unfold insE
          rw [if_neg (by omega), if_neg (by omega)]
          exact j2
  · have e0 : insF (A 28) e cnt cnt = A 28 := by
      funext k
      unfold insF
      rw [if_neg (by omega)]
    have := p3 q P
    rw [e0, uA_id] at this
    rw [← this, zn_14]
    simp (disch := omega) only [ze_14_0, ze_14_1, ze_14_4, ze_14_6, ze_14_9, ze_14_10, ze_14_11, ze_14_14, ze_14_16, ze_14_19, ze_14_20, ze_14_23, ze_14_24, ze_14_25, ze_14_26, ze_14_27, ze_14_28, ze_14_31, ze_14_32, ze_14_35, ze_14_36, ze_14_37, ze_14_40, ze_14_41, ze_14_42, ze_14_43, ze_14_44, ze_14_45, ze_14_48, ze_14_51, ze_14_52, ze_14_55, ze_14_56, ze_14_57, ze_14_58, ze_14_59, ze_14_59_i, ze_14_60, ze_14_63, ze_14_64, ze_14_65, ze_14_68, z_k_r, z_push_s, z_push_n, okS_0, okS_I, okS_R, okS_A, List.getElem?_cons_zero, List.getElem?_cons_succ, List.length_cons, List.length_nil, List.set_cons_zero, List.set_cons_succ, true_and, and_true, z_tI, z_tB, pk_mul, nI_add, cI_cl, cI_ix, nar_0, nar_1, nar_b, Nat.reduceAdd, Nat.reduceLT, Nat.reduceMul, ↓xr_0_0, ↓xr_0_1, ↓xr_0_2, ↓xr_0_3, ↓xr_0_4, ↓xr_0_5, ↓xr_0_6, ↓xr_0_7, ↓xr_0_8, ↓xr_0_9, ↓xg_14, xp_14, xo_0, ↓xr_7_0, ↓xg_0, xp_0, ↓xg_1, xp_1, ↓xg_2, xp_2, ↓xg_3, xp_3, ↓xg_4, xp_4, ↓xg_5, xp_5, xo_7, ↓xr_9_0, ↓xr_9_1, ↓xg_6, xp_6, ↓xg_7, xp_7, xo_9, ↓xr_16_0, xo_16, ↓xr_17_0, ↓xr_17_1, ↓xr_17_2, ↓xg_8, xp_8, xo_17, ↓xr_25_0, ↓xr_25_1, ↓xg_9, xp_9, ↓xg_10, xp_10, xo_25, ↓xr_27_0, ↓xr_27_1, ↓xg_11, xp_11, xo_27, ↓xr_29_0, ↓xg_12, xp_12, ↓xg_13, xp_13, xo_29, ↓xr_41_0, ↓xr_41_1, xo_41, xL_8, xS_8, xL_24, xS_24, xL_26, xS_26, xL_28, xS_28, xL_31, xS_31, xL_32, xS_32, xL_33, xS_33, xL_34, xS_34, xL_35, xS_35, xL_36, xS_36, xL_37, xS_37, xL_38, xS_38, xL_39, xS_39, xL_40, xS_40, xL_43, xS_43, xL_44, xS_44, xL_45, xS_45, xL_46, xS_46, xq_30, xq_42, ↓xr_1_0, ↓xr_1_1, ↓xr_1_2, ↓xr_1_3, ↓xr_1_4, ↓xh_1_0, ↓xh_1_1, ↓xh_1_2, ↓xh_1_3, ↓xh_1_4, xo_1, xL_2, xL_3, xL_4, xL_5, xL_6, ↓xr_10_0, ↓xr_10_1, ↓xr_10_2, ↓xr_10_3, ↓xr_10_4, ↓xh_10_0, ↓xh_10_1, ↓xh_10_2, ↓xh_10_3, ↓xh_10_4, xo_10, xL_11, xL_12, xL_13, xL_14, xL_15, ↓xr_18_0, ↓xr_18_1, ↓xr_18_2, ↓xr_18_3, ↓xr_18_4, ↓xh_18_0, ↓xh_18_1, ↓xh_18_2, ↓xh_18_3, ↓xh_18_4, xo_18, xL_19, xL_20, xL_21, xL_22, xL_23, uA_s, uA_n, uG_s, uG_n, ne_eq, Nat.reduceEqDiff, not_false_eq_true, cI_lt, cI_eq, ↓reduceIte, if_true, if_false, Nat.lt_irrefl, eq_self, Nat.reduceEqDiff, or_true, true_or, or_false, false_or, not_false_eq_true, not_true_eq_false, ce_5, zb_t, zb_f, hI, hc]
theorem pc_at {S : GS} {n a b c : Nat} (ha : a < 5) (hb : b < 5) (hc : c < 5) : S.pc (n * 125 + a * 25 + b * 5 + c) = (decide (a < b) && decide (b < S.R) && S.fl a && S.fl b && decide (c < S.C) && decide (pop (S.cyc a b c) = n) && decide (low (S.cyc a b c) = c)) := by
  unfold GS.pc
  rw [show (n * 125 + a * 25 + b * 5 + c) / 125 = n by omega, show (n * 125 + a * 25 + b * 5 + c) / 25 % 5 = a by omega, show (n * 125 + a * 25 + b * 5 + c) / 5 % 5 = b by omega, show (n * 125 + a * 25 + b * 5 + c) % 5 = c by omega]
theorem pc_no {S : GS} {a b c i : Nat} (ha : a < 5) (hb : b < 5) (hc : c < 5) (h : i % 125 = a * 25 + b * 5 + c) (hn : ¬ (a < b ∧ b < S.R ∧ S.fl a = true ∧ S.fl b = true ∧ c < S.C ∧ low (S.cyc a b c) = c)) : S.pc i = false := by
  rw [show i = i / 125 * 125 + a * 25 + b * 5 + c by omega, pc_at ha hb hc]
  cases z : (decide (a < b) && decide (b < S.R) && S.fl a && S.fl b && decide (c < S.C) && decide (pop (S.cyc a b c) = i / 125) && decide (low (S.cyc a b c) = c))
  · rfl
  · simp only [Bool.and_eq_true, decide_eq_true_eq] at z
    obtain ⟨⟨⟨⟨⟨⟨z1, z2⟩, z3⟩, z4⟩, z5⟩, z6⟩, z7⟩ := z
    exact absurd ⟨z1, z2, z3, z4, z5, z7⟩ hn
/-- the columns of the cycles of the columns below c -/
def sn (S : GS) (a b c x : Nat) : Bool := anyB (fun i => S.cyc a b i x) c
theorem y_pair1 (hg : GI (G 1)) (hd : 1 < d) {a b : Nat} (hab : a < b) (hb : b < (G 1).R) (fa : (G 1).fl a = true) (fb : (G 1).fl b = true) {cnt0 : Nat} (h0 : cnt0 ≤ 18) : ∀ (k c cnt : Nat) (I : Nat → Int32) (A : Nat → Nat → Int32) (e : Nat → Nat) (v : Value), c + k = (G 1).C → I 11 = nI cnt → cnt0 ≤ cnt → 2 * (cnt - cnt0) ≤ pop (sn (G 1) a b c) → SO (G 1) (A 28) e cnt (a * 25 + b * 5 + c) → ∃ cnt' F' e', cnt' ≤ cnt0 + 2 ∧ SO (G 1) F' e' cnt' (a * 25 + b * 5 + (G 1).C) ∧ ∀ (q : Option Nat × Nat × Nat) (P : z_Res → Prop), z_T g d 13 5 [.ref (B + 27), .int (nI a), .int (nI b), .int (sS (sn (G 1) a b c)), .int (nI c), v] [] (xw f B G I A, q) P = P (.inr none, (xw f B G (upd I 11 (nI cnt')) (uA A 28 F'), q))
  | 0, c, cnt, I, A, e, v, h, hI, h1, h2, hS => by
    have hC := hg.C5
    have : c = (G 1).C := by omega
    subst this
    have := pop_lt (sn (G 1) a b (G 1).C)
    refine ⟨cnt, A 28, e, by omega, hS, fun q P => ?_⟩
    rw [ze_13_5]
    simp (disch := omega) only [ze_13_0, ze_13_1, ze_13_2, ze_13_3, ze_13_7, ze_13_8, ze_13_11, ze_13_14, ze_13_17, ze_13_18, ze_13_20, ze_13_21, ze_13_22, ze_13_23, ze_13_26, ze_13_27, ze_13_28, ze_13_29, ze_13_31, ze_13_34, ze_13_36, ze_13_37, ze_13_39, ze_13_40, ze_13_41, ze_13_42, ze_13_44, ze_13_47, ze_13_50, ze_13_51, ze_13_52, ze_13_54, ze_13_55, ze_13_56, ze_13_57, ze_13_59, ze_13_60, ze_13_61, ze_13_63, ze_13_64, ze_13_67, ze_13_70, ze_13_73, z_k_r, z_push_s, z_push_n, okS_0, okS_I, okS_R, okS_A, List.getElem?_cons_zero, List.getElem?_cons_succ, List.length_cons, List.length_nil, List.set_cons_zero, List.set_cons_succ, true_and, and_true, z_tI, z_tB, pk_mul, nI_add, cI_cl, cI_ix, nar_0, nar_1, nar_b, Nat.reduceAdd, Nat.reduceLT, Nat.reduceMul, ↓xr_0_0, ↓xr_0_1, ↓xr_0_2, ↓xr_0_3, ↓xr_0_4, ↓xr_0_5, ↓xr_0_6, ↓xr_0_7, ↓xr_0_8, ↓xr_0_9, ↓xg_14, xp_14, xo_0, ↓xr_7_0, ↓xg_0, xp_0, ↓xg_1, xp_1, ↓xg_2, xp_2, ↓xg_3, xp_3, ↓xg_4, xp_4, ↓xg_5, xp_5, xo_7, ↓xr_9_0, ↓xr_9_1, ↓xg_6, xp_6, ↓xg_7, xp_7, xo_9, ↓xr_16_0, xo_16, ↓xr_17_0, ↓xr_17_1, ↓xr_17_2, ↓xg_8, xp_8, xo_17, ↓xr_25_0, ↓xr_25_1, ↓xg_9, xp_9, ↓xg_10, xp_10, xo_25, ↓xr_27_0, ↓xr_27_1, ↓xg_11, xp_11, xo_27, ↓xr_29_0, ↓xg_12, xp_12, ↓xg_13, xp_13, xo_29, ↓xr_41_0, ↓xr_41_1, xo_41, xL_8, xS_8, xL_24, xS_24, xL_26, xS_26, xL_28, xS_28, xL_31, xS_31, xL_32, xS_32, xL_33, xS_33, xL_34, xS_34, xL_35, xS_35, xL_36, xS_36, xL_37, xS_37, xL_38, xS_38, xL_39, xS_39, xL_40, xS_40, xL_43, xS_43, xL_44, xS_44, xL_45, xS_45, xL_46, xS_46, xq_30, xq_42, ↓xr_1_0, ↓xr_1_1, ↓xr_1_2, ↓xr_1_3, ↓xr_1_4, ↓xh_1_0, ↓xh_1_1, ↓xh_1_2, ↓xh_1_3, ↓xh_1_4, xo_1, xL_2, xL_3, xL_4, xL_5, xL_6, ↓xr_10_0, ↓xr_10_1, ↓xr_10_2, ↓xr_10_3, ↓xr_10_4, ↓xh_10_0, ↓xh_10_1, ↓xh_10_2, ↓xh_10_3, ↓xh_10_4, xo_10, xL_11, xL_12, xL_13, xL_14, xL_15, ↓xr_18_0, ↓xr_18_1, ↓xr_18_2, ↓xr_18_3, ↓xr_18_4, ↓xh_18_0, ↓xh_18_1, ↓xh_18_2, ↓xh_18_3, ↓xh_18_4, xo_18, xL_19, xL_20, xL_21, xL_22, xL_23, uA_s, uA_n, uG_s, uG_n, ne_eq, Nat.reduceEqDiff, not_false_eq_true, cI_lt, cI_eq, ↓reduceIte, if_true, if_false, Nat.lt_irrefl, eq_self, Nat.reduceEqDiff, or_true, true_or, or_false, false_or, not_false_eq_true, not_true_eq_false, ce_5, zb_t, zb_f]
    rw [uA_id, ← hI, upd_eqI]
  | k + 1, c, cnt, I, A, e, v, h, hI, h1, h2, hS => by
    have hC := hg.C5
    have hR := hg.RC
    have hc : c < (G 1).C := by omega
    have hd0 : 0 < d := by omega
    have ha5 : a < 5 := by omega
    have hb5 : b < 5 := by omega
    have hπ : ∀ c, c < (G 1).C → (G 1).pi a b c < (G 1).C := fun c hc => (pi_sp hg ha5 hb5 fa fb hc).1
    have hi : ∀ c c', c < (G 1).C → c' < (G 1).C → (G 1).pi a b c = (G 1).pi a b c' → c = c' := fun c c' x y z => pi_inj hg ha5 hb5 fa fb x y z
    have own : ∀ i, i < (G 1).C → (G 1).cyc a b i i = true := fun i hi => OB_iff.mpr ⟨0, by omega, rfl⟩
    have same : ∀ i x, i < (G 1).C → (G 1).cyc a b i x = true → (G 1).cyc a b x = (G 1).cyc a b i := fun i x z1 z2 => OB_same hπ hC hi z1 z2
    have p5 := pop_lt (sn (G 1) a b c)
    cases e0 : sn (G 1) a b c c
    · -- a new cycle
      have lo : low ((G 1).cyc a b c) = c := low_is (by omega) (own c hc) (fun i hi2 => by
        cases z : (G 1).cyc a b c i
        · rfl
        · have e2 := same c i hc z
          have : sn (G 1) a b c c = true := any_t hi2 (by rw [e2]; exact own c hc)
          rw [this] at e0
          cases e0)
      have dis : ∀ t, t < 5 → sn (G 1) a b c t = true → (G 1).cyc a b c t = false := fun t ht z => by
        cases z2 : (G 1).cyc a b c t
        · rfl
        · obtain ⟨i, i1, i2⟩ := (anyB_iff _ _).mp z
          have e2 := same c t hc z2
          have e3 := same i t (by omega) i2
          have : sn (G 1) a b c c = true := any_t i1 (by rw [← e3, e2]; exact own c hc)
          rw [this] at e0
          cases e0
      have stp : sn (G 1) a b (c + 1) = fun t => sn (G 1) a b c t || (G 1).cyc a b c t := by
        funext t
        unfold sn
        rw [anyB_s]
      have two : 2 ≤ pop ((G 1).cyc a b c) := pop_2 (x := c) (y := (G 1).pi a b c) (by omega) (by have := hπ c hc; omega) (pi_ne hg ha5 hb5 (by omega) fa fb hc).symm (own c hc) (OB_all hπ hC hc 1)
      have pu := pop_union dis
      have p6 := pop_lt (fun t => sn (G 1) a b c t || (G 1).cyc a b c t)
      have pl := pop_lt ((G 1).cyc a b c)
      have hx : pop ((G 1).cyc a b c) * 125 + a * 25 + b * 5 + c < 750 := by omega
      obtain ⟨F1, e1, S1, r1⟩ := y_ins (g := g) (d := d - 1) (f := f) (B := B) (G := G) (A := A) (S := G 1) (e := e) (L := a * 25 + b * 5 + c) (x := pop ((G 1).cyc a b c) * 125 + a * 25 + b * 5 + c) (by omega) hI hS hx (by omega) (fun i hi2 hi3 => by
        rw [show i = i / 125 * 125 + a * 25 + b * 5 + c by omega, pc_at ha5 hb5 (by omega)]
        simp only [Bool.and_eq_true, decide_eq_true_eq]
        constructor
        · rintro ⟨⟨⟨⟨⟨⟨z1, z2⟩, z3⟩, z4⟩, z5⟩, z6⟩, z7⟩
          omega
        · intro z
          exact ⟨⟨⟨⟨⟨⟨hab, hb⟩, fa⟩, fb⟩, hc⟩, by omega⟩, lo⟩)
      have dge : dg (pop ((G 1).cyc a b c) * 125 + a * 25 + b * 5 + c) = pop ((G 1).cyc a b c) * 1000 + a * 100 + b * 10 + c := by
        unfold dg
        omega
      rw [dge] at r1
      obtain ⟨cnt', F', e', y1, y2, y3⟩ := y_pair1 hg hd hab hb fa fb h0 k (c + 1) (cnt + 1) (upd I 11 (nI (cnt + 1))) (uA A 28 F1) e1 (.int (sS ((G 1).cyc a b c))) (by omega) (upd_at _ _ _) (by omega) (by rw [stp, pu]; omega) (by rw [uA_s]; exact S1)
      refine ⟨cnt', F', e', y1, y2, fun q P => ?_⟩
      rw [upd_upd, uA_uA] at y3
      rw [← y3 q P, stp, ze_13_5]
      simp (disch := omega) only [ze_13_0, ze_13_1, ze_13_2, ze_13_3, ze_13_7, ze_13_8, ze_13_11, ze_13_14, ze_13_17, ze_13_18, ze_13_20, ze_13_21, ze_13_22, ze_13_23, ze_13_26, ze_13_27, ze_13_28, ze_13_29, ze_13_31, ze_13_34, ze_13_36, ze_13_37, ze_13_39, ze_13_40, ze_13_41, ze_13_42, ze_13_44, ze_13_47, ze_13_50, ze_13_51, ze_13_52, ze_13_54, ze_13_55, ze_13_56, ze_13_57, ze_13_59, ze_13_60, ze_13_61, ze_13_63, ze_13_64, ze_13_67, ze_13_70, ze_13_73, z_k_r, z_push_s, z_push_n, okS_0, okS_I, okS_R, okS_A, List.getElem?_cons_zero, List.getElem?_cons_succ, List.length_cons, List.length_nil, List.set_cons_zero, List.set_cons_succ, true_and, and_true, z_tI, z_tB, pk_mul, nI_add, cI_cl, cI_ix, nar_0, nar_1, nar_b, Nat.reduceAdd, Nat.reduceLT, Nat.reduceMul, ↓xr_0_0, ↓xr_0_1, ↓xr_0_2, ↓xr_0_3, ↓xr_0_4, ↓xr_0_5, ↓xr_0_6, ↓xr_0_7, ↓xr_0_8, ↓xr_0_9, ↓xg_14, xp_14, xo_0, ↓xr_7_0, ↓xg_0, xp_0, ↓xg_1, xp_1, ↓xg_2, xp_2, ↓xg_3, xp_3, ↓xg_4, xp_4, ↓xg_5, xp_5, xo_7, ↓xr_9_0, ↓xr_9_1, ↓xg_6, xp_6, ↓xg_7, xp_7, xo_9, ↓xr_16_0, xo_16, ↓xr_17_0, ↓xr_17_1, ↓xr_17_2, ↓xg_8, xp_8, xo_17, ↓xr_25_0, ↓xr_25_1, ↓xg_9, xp_9, ↓xg_10, xp_10, xo_25, ↓xr_27_0, ↓xr_27_1, ↓xg_11, xp_11, xo_27, ↓xr_29_0, ↓xg_12, xp_12, ↓xg_13, xp_13, xo_29, ↓xr_41_0, ↓xr_41_1, xo_41, xL_8, xS_8, xL_24, xS_24, xL_26, xS_26, xL_28, xS_28, xL_31, xS_31, xL_32, xS_32, xL_33, xS_33, xL_34, xS_34, xL_35, xS_35, xL_36, xS_36, xL_37, xS_37, xL_38, xS_38, xL_39, xS_39, xL_40, xS_40, xL_43, xS_43, xL_44, xS_44, xL_45, xS_45, xL_46, xS_46, xq_30, xq_42, ↓xr_1_0, ↓xr_1_1, ↓xr_1_2, ↓xr_1_3, ↓xr_1_4, ↓xh_1_0, ↓xh_1_1, ↓xh_1_2, ↓xh_1_3, ↓xh_1_4, xo_1, xL_2, xL_3, xL_4, xL_5, xL_6, ↓xr_10_0, ↓xr_10_1, ↓xr_10_2, ↓xr_10_3, ↓xr_10_4, ↓xh_10_0, ↓xh_10_1, ↓xh_10_2, ↓xh_10_3, ↓xh_10_4, xo_10, xL_11, xL_12, xL_13, xL_14, xL_15, ↓xr_18_0, ↓xr_18_1, ↓xr_18_2, ↓xr_18_3, ↓xr_18_4, ↓xh_18_0, ↓xh_18_1, ↓xh_18_2, ↓xh_18_3, ↓xh_18_4, xo_18, xL_19, xL_20, xL_21, xL_22, xL_23, uA_s, uA_n, uG_s, uG_n, ne_eq, Nat.reduceEqDiff, not_false_eq_true, cI_lt, cI_eq, ↓reduceIte, if_true, if_false, Nat.lt_irrefl, eq_self, Nat.reduceEqDiff, or_true, true_or, or_false, false_or, not_false_eq_true, not_true_eq_false, ce_5, zb_t, zb_f, hc, sS_bit, e0, zb_0, y_bits hg (show 0 < d - 1 by omega) ha5 hb5 fa fb hc, hd0, sS_or, s_bitCount, r1]
    · -- one that was there
      obtain ⟨i, i1, i2⟩ := (anyB_iff _ _).mp e0
      have e2 := same i c (by omega) i2
      have lo : ¬ low ((G 1).cyc a b c) = c := fun z => by
        have : low ((G 1).cyc a b c) ≤ i := low_le (by omega) (by rw [e2]; exact own i (by omega))
        omega
      have stp : sn (G 1) a b (c + 1) = sn (G 1) a b c := by
        funext t
        show anyB (fun i => (G 1).cyc a b i t) (c + 1) = _
        rw [anyB_s]
        cases z : (G 1).cyc a b c t
        · rw [Bool.or_false]
          rfl
        · rw [Bool.or_true]
          exact (any_t i1 (by rw [← e2]; exact z)).symm
      obtain ⟨cnt', F', e', y1, y2, y3⟩ := y_pair1 hg hd hab hb fa fb h0 k (c + 1) cnt I A e v (by omega) hI h1 (by rw [stp]; exact h2) (SO_skip hS (by omega) (fun j j1 j2 j3 => pc_no ha5 hb5 (show c < 5 by omega) (by omega) (fun z => lo z.2.2.2.2.2)))
      refine ⟨cnt', F', e', y1, y2, fun q P => ?_⟩
      rw [← y3 q P, stp, ze_13_5]
      simp (disch := omega) only [ze_13_0, ze_13_1, ze_13_2, ze_13_3, ze_13_7, ze_13_8, ze_13_11, ze_13_14, ze_13_17, ze_13_18, ze_13_20, ze_13_21, ze_13_22, ze_13_23, ze_13_26, ze_13_27, ze_13_28, ze_13_29, ze_13_31, ze_13_34, ze_13_36, ze_13_37, ze_13_39, ze_13_40, ze_13_41, ze_13_42, ze_13_44, ze_13_47, ze_13_50, ze_13_51, ze_13_52, ze_13_54, ze_13_55, ze_13_56, ze_13_57, ze_13_59, ze_13_60, ze_13_61, ze_13_63, ze_13_64, ze_13_67, ze_13_70, ze_13_73, z_k_r, z_push_s, z_push_n, okS_0, okS_I, okS_R, okS_A, List.getElem?_cons_zero, List.getElem?_cons_succ, List.length_cons, List.length_nil, List.set_cons_zero, List.set_cons_succ, true_and, and_true, z_tI, z_tB, pk_mul, nI_add, cI_cl, cI_ix, nar_0, nar_1, nar_b, Nat.reduceAdd, Nat.reduceLT, Nat.reduceMul, ↓xr_0_0, ↓xr_0_1, ↓xr_0_2, ↓xr_0_3, ↓xr_0_4, ↓xr_0_5, ↓xr_0_6, ↓xr_0_7, ↓xr_0_8, ↓xr_0_9, ↓xg_14, xp_14, xo_0, ↓xr_7_0, ↓xg_0, xp_0, ↓xg_1, xp_1, ↓xg_2, xp_2, ↓xg_3, xp_3, ↓xg_4, xp_4, ↓xg_5, xp_5, xo_7, ↓xr_9_0, ↓xr_9_1, ↓xg_6, xp_6, ↓xg_7, xp_7, xo_9, ↓xr_16_0, xo_16, ↓xr_17_0, ↓xr_17_1, ↓xr_17_2, ↓xg_8, xp_8, xo_17, ↓xr_25_0, ↓xr_25_1, ↓xg_9, xp_9, ↓xg_10, xp_10, xo_25, ↓xr_27_0, ↓xr_27_1, ↓xg_11, xp_11, xo_27, ↓xr_29_0, ↓xg_12, xp_12, ↓xg_13, xp_13, xo_29, ↓xr_41_0, ↓xr_41_1, xo_41, xL_8, xS_8, xL_24, xS_24, xL_26, xS_26, xL_28, xS_28, xL_31, xS_31, xL_32, xS_32, xL_33, xS_33, xL_34, xS_34, xL_35, xS_35, xL_36, xS_36, xL_37, xS_37, xL_38, xS_38, xL_39, xS_39, xL_40, xS_40, xL_43, xS_43, xL_44, xS_44, xL_45, xS_45, xL_46, xS_46, xq_30, xq_42, ↓xr_1_0, ↓xr_1_1, ↓xr_1_2, ↓xr_1_3, ↓xr_1_4, ↓xh_1_0, ↓xh_1_1, ↓xh_1_2, ↓xh_1_3, ↓xh_1_4, xo_1, xL_2, xL_3, xL_4, xL_5, xL_6, ↓xr_10_0, ↓xr_10_1, ↓xr_10_2, ↓xr_10_3, ↓xr_10_4, ↓xh_10_0, ↓xh_10_1, ↓xh_10_2, ↓xh_10_3, ↓xh_10_4, xo_10, xL_11, xL_12, xL_13, xL_14, xL_15, ↓xr_18_0, ↓xr_18_1, ↓xr_18_2, ↓xr_18_3, ↓xr_18_4, ↓xh_18_0, ↓xh_18_1, ↓xh_18_2, ↓xh_18_3, ↓xh_18_4, xo_18, xL_19, xL_20, xL_21, xL_22, xL_23, uA_s, uA_n, uG_s, uG_n, ne_eq, Nat.reduceEqDiff, not_false_eq_true, cI_lt, cI_eq, ↓reduceIte, if_true, if_false, Nat.lt_irrefl, eq_self, Nat.reduceEqDiff, or_true, true_or, or_false, false_or, not_false_eq_true, not_true_eq_false, ce_5, zb_t, zb_f, hc, sS_bit, e0, zb_0, Bool.true_eq_false]
end
