/-! the first transversal, on both sides -/
theorem fx_t (r c : Nat) (h : r < 2147483648) : fxc (-1) (-1) r c = true := by
  unfold fxc
  rw [decide_eq_true (by rw [on_m1 r h]; exact id)]
  rfl
def GS.tc (S : GS) (k r : Nat) (bz us : Nat → Bool) (c : Nat) : Bool := decide (c < S.C) && S.fr r c bz us && decide (0 < S.ac (fxc (-1) (-1)) k (r + 1) (ad bz c) (ad us (S.c (r * 5 + c))))
def GS.fc (S : GS) (k r : Nat) (bz us : Nat → Bool) : Nat := low (S.tc k r bz us)
def GS.FT (S : GS) : Nat → Nat → (Nat → Bool) → (Nat → Bool) → Nat → Nat
  | 0, _, _, _, _ => 5
  | k + 1, r, bz, us, 0 => S.fc k r bz us
  | k + 1, r, bz, us, i + 1 => S.FT k (r + 1) (ad bz (S.fc k r bz us)) (ad us (S.c (r * 5 + S.fc k r bz us))) i
theorem sm_pos {p : Nat → Nat} : ∀ (k i : Nat), (0 < sm p i k ↔ ∃ j, i ≤ j ∧ j < i + k ∧ 0 < p j)
  | 0, i => ⟨fun z => by (exact absurd z (by rw [sm_z]; omega)), fun ⟨j, a, b, _⟩ => by omega⟩
  | k + 1, i => by
    rw [sm_s]
    have ih := sm_pos (p := p) k (i + 1)
    constructor
    · intro h
      by_cases e : 0 < p i
      · exact ⟨i, Nat.le_refl _, by omega, e⟩
      · obtain ⟨j, a, b, c⟩ := ih.mp (by omega)
        exact ⟨j, by omega, by omega, c⟩
    · rintro ⟨j, a, b, c⟩
      by_cases e : j = i
      · rw [e] at c; omega
      · have := ih.mpr ⟨j, by omega, by omega, c⟩
        omega
theorem ac_pos {S : GS} {k r : Nat} (hr : r < 5) {bz us : Nat → Bool} : (0 < S.ac (fxc (-1) (-1)) (k + 1) r bz us) ↔ ∃ c, S.tc k r bz us c = true := by
  show (0 < sm (fun c => if (fxc (-1) (-1) r c && S.fr r c bz us) = true then S.ac (fxc (-1) (-1)) k (r + 1) (ad bz c) (ad us (S.c (r * 5 + c))) else 0) 0 S.C) ↔ _
  rw [sm_pos]
  unfold GS.tc
  constructor
  · rintro ⟨c, _, h1, h2⟩
    by_cases e : (fxc (-1) (-1) r c && S.fr r c bz us) = true
    · rw [if_pos e] at h2
      rw [fx_t r c (by omega), Bool.true_and] at e
      exact ⟨c, by rw [e, decide_eq_true (by omega), decide_eq_true h2]; rfl⟩
    · rw [if_neg e] at h2
      omega
  · rintro ⟨c, h⟩
    simp only [Bool.and_eq_true, decide_eq_true_eq] at h
    obtain ⟨⟨h1, h2⟩, h3⟩ := h
    refine ⟨c, by omega, by omega, ?_⟩
    rw [fx_t r c (by omega), Bool.true_and, if_pos h2]
    exact h3
theorem tc_lt {S : GS} {k r c : Nat} {bz us : Nat → Bool} (h : S.tc k r bz us c = true) : c < S.C := by
  unfold GS.tc at h
  simp only [Bool.and_eq_true, decide_eq_true_eq] at h
  exact h.1.1
theorem fc_sp {S : GS} (hC : S.C ≤ 5) {k r : Nat} (hr : r < 5) {bz us : Nat → Bool} (h : 0 < S.ac (fxc (-1) (-1)) (k + 1) r bz us) : S.fc k r bz us < S.C ∧ S.tc k r bz us (S.fc k r bz us) = true ∧ ∀ i, i < S.fc k r bz us → S.tc k r bz us i = false := by
  obtain ⟨c, hc⟩ := (ac_pos hr).mp h
  have c5 := tc_lt hc
  have ne : low (S.tc k r bz us) ≠ 5 := fun z => by
    have := low_5.mp z c (by omega)
    rw [hc] at this
    cases this
  obtain ⟨l1, l2, l3⟩ := low_sp ne
  exact ⟨tc_lt l2, l2, l3⟩
theorem ac_le {S : GS} (hC : S.C ≤ 5) {fx : Nat → Nat → Bool} : ∀ (k r : Nat) (bz us : Nat → Bool), S.ac fx k r bz us ≤ 5 ^ k
  | 0, _, _, _ => Nat.le_refl _
  | k + 1, r, bz, us => by
    have := sm_le (p := fun c => if (fx r c && S.fr r c bz us) = true then S.ac fx k (r + 1) (ad bz c) (ad us (S.c (r * 5 + c))) else 0) (m := 5 ^ k) S.C 0 (fun c _ _ => by
      show (if (fx r c && S.fr r c bz us) = true then S.ac fx k (r + 1) (ad bz c) (ad us (S.c (r * 5 + c))) else 0) ≤ 5 ^ k
      split
      · exact ac_le hC k (r + 1) _ _
      · exact Nat.zero_le _)
    have h2 : S.C * 5 ^ k ≤ 5 * 5 ^ k := Nat.mul_le_mul_right _ hC
    have h3 : (5 : Nat) ^ (k + 1) = 5 * 5 ^ k := by rw [Nat.pow_succ, Nat.mul_comm]
    rw [h3]
    exact Nat.le_trans this h2
theorem ac_b {S : GS} (hC : S.C ≤ 5) {fx : Nat → Nat → Bool} {k : Nat} (hk : k ≤ 5) (r : Nat) (bz us : Nat → Bool) : S.ac fx k r bz us < 10000 := by
  have h1 := ac_le (S := S) hC (fx := fx) k r bz us
  have h2 : 5 ^ k ≤ 5 ^ 5 := Nat.pow_le_pow_right (by omega) hk
  have h3 : (5 : Nat) ^ 5 = 3125 := rfl
  omega
section
variable {g : z_G} {d : Nat} {f : Nat → Option z_C} {q : Option Nat × Nat × Nat} {P : z_Res → Prop} {B : Nat} {G : Nat → GS} {I : Nat → Int32} {A : Nat → Nat → Int32}
theorem x_free (hc : ∀ k, (G 1).c k ≤ 5) (hd : 0 < d) {r c : Nat} (hr : r < 5) (hj : c < 5) (bz us : Nat → Bool) : z_Ca g d 65 [.ref (B + 25), .int (nI r), .int (nI c), .int (sS bz), .int (sS us)] (xw f B G I A, q) P = P (.inr (some (.int (zb ((G 1).fr r c bz us)))), (xw f B G I A, q)) := by
  have hT : gw (xw f B G I A) (B + 1) (G 1).w (B + 25) = some (.inr (8, [.ref (B + 1), .ref (B + 26), .int (I 9), .int (I 10)])) := by rw [xj_1]; exact xw_25 f B G I A
  have := t_free (g := g) (d := d) (q := q) (P := P) hT hc hd hr hj bz us
  rw [xj_1] at this
  exact this
theorem x_bit (hc : ∀ k, (G 1).c k ≤ 5) {r c : Nat} (hr : r < 5) (hj : c < 5) : z_Ca g d 66 [.ref (B + 25), .int (nI r), .int (nI c)] (xw f B G I A, q) P = P (.inr (some (.int (sS fun t => decide (t = (G 1).c (r * 5 + c))))), (xw f B G I A, q)) := by
  have hT : gw (xw f B G I A) (B + 1) (G 1).w (B + 25) = some (.inr (8, [.ref (B + 1), .ref (B + 26), .int (I 9), .int (I 10)])) := by rw [xj_1]; exact xw_25 f B G I A
  have := t_bit (g := g) (d := d) (q := q) (P := P) hT hc hr hj
  rw [xj_1] at this
  exact this
theorem t_ch1 (hg : GI (G 1)) (hd : 1 < d) {r k : Nat} (hr : r < (G 1).R) (bz us : Nat → Bool)
    (ih : ∀ (bz us : Nat → Bool) (A : Nat → Nat → Int32), ∃ F, (∀ i, i < r + 1 → F i = A 26 i) ∧ (0 < (G 1).ac (fxc (-1) (-1)) k (r + 1) bz us → ∀ i, i < k → F (r + 1 + i) = nI ((G 1).FT k (r + 1) bz us i)) ∧ ∀ (q : Option Nat × Nat × Nat) (P : z_Res → Prop), z_Ca g (d - 1) 64 [.ref (B + 25), .int (nI (r + 1)), .int (sS bz), .int (sS us)] (xw f B G I A, q) P = P (.inr (some (.int (zb (decide (0 < (G 1).ac (fxc (-1) (-1)) k (r + 1) bz us))))), (xw f B G I (uA A 26 F), q))) :
    ∀ (j c : Nat) (A : Nat → Nat → Int32), c + j = (G 1).C → (∀ i, i < c → (G 1).tc k r bz us i = false) → ∃ F, (∀ i, i < r → F i = A 26 i) ∧ (0 < (G 1).ac (fxc (-1) (-1)) (k + 1) r bz us → ∀ i, i < k + 1 → F (r + i) = nI ((G 1).FT (k + 1) r bz us i)) ∧ ∀ (q : Option Nat × Nat × Nat) (P : z_Res → Prop), z_T g d 64 16 [.ref (B + 25), .int (nI r), .int (sS bz), .int (sS us), .int (nI c)] [] (xw f B G I A, q) P = P (.inr (some (.int (zb (decide (0 < (G 1).ac (fxc (-1) (-1)) (k + 1) r bz us))))), (xw f B G I (uA A 26 F), q))
  | 0, c, A, h, hn => by
    have hC := hg.C5
    have hR := hg.RC
    have : c = (G 1).C := by omega
    subst this
    have z : ¬ 0 < (G 1).ac (fxc (-1) (-1)) (k + 1) r bz us := fun z => by
      obtain ⟨c, hc⟩ := (ac_pos (by omega)).mp z
      rw [hn c (tc_lt hc)] at hc
      cases hc
    refine ⟨A 26, fun _ _ => rfl, fun z2 => absurd z2 z, fun q P => ?_⟩
    rw [uA_id, decide_eq_false z, ze_64_16]
    simp (disch := omega) only [ze_64_0, ze_64_1, ze_64_2, ze_64_5, ze_64_8, ze_64_11, ze_64_12, ze_64_13, ze_64_14, ze_64_18, ze_64_19, ze_64_22, ze_64_25, ze_64_28, ze_64_29, ze_64_30, ze_64_32, ze_64_33, ze_64_34, ze_64_37, ze_64_40, ze_64_41, ze_64_44, ze_64_45, ze_64_47, ze_64_48, ze_64_49, ze_64_50, ze_64_51, ze_64_52, ze_64_53, ze_64_54, ze_64_56, ze_64_57, ze_64_58, ze_64_59, ze_64_60, ze_64_61, ze_64_63, ze_64_66, ze_64_67, ze_64_70, ze_64_73, ze_64_74, ze_64_75, ze_64_78, ze_64_81, ze_64_82, z_k_r, z_push_s, z_push_n, okS_0, okS_I, okS_R, okS_A, List.getElem?_cons_zero, List.getElem?_cons_succ, List.length_cons, List.length_nil, List.set_cons_zero, List.set_cons_succ, true_and, and_true, z_tI, z_tB, pk_mul, nI_add, cI_cl, cI_ix, nar_0, nar_1, nar_b, Nat.reduceAdd, Nat.reduceLT, Nat.reduceMul, ↓xr_0_0, ↓xr_0_1, ↓xr_0_2, ↓xr_0_3, ↓xr_0_4, ↓xr_0_5, ↓xr_0_6, ↓xr_0_7, ↓xr_0_8, ↓xr_0_9, ↓xg_14, xp_14, xo_0, ↓xr_7_0, ↓xg_0, xp_0, ↓xg_1, xp_1, ↓xg_2, xp_2, ↓xg_3, xp_3, ↓xg_4, xp_4, ↓xg_5, xp_5, xo_7, ↓xr_9_0, ↓xr_9_1, ↓xg_6, xp_6, ↓xg_7, xp_7, xo_9, ↓xr_16_0, xo_16, ↓xr_17_0, ↓xr_17_1, ↓xr_17_2, ↓xg_8, xp_8, xo_17, ↓xr_25_0, ↓xr_25_1, ↓xg_9, xp_9, ↓xg_10, xp_10, xo_25, ↓xr_27_0, ↓xr_27_1, ↓xg_11, xp_11, xo_27, ↓xr_29_0, ↓xg_12, xp_12, ↓xg_13, xp_13, xo_29, ↓xr_41_0, ↓xr_41_1, xo_41, xL_8, xS_8, xL_24, xS_24, xL_26, xS_26, xL_28, xS_28, xL_31, xS_31, xL_32, xS_32, xL_33, xS_33, xL_34, xS_34, xL_35, xS_35, xL_36, xS_36, xL_37, xS_37, xL_38, xS_38, xL_39, xS_39, xL_40, xS_40, xL_43, xS_43, xL_44, xS_44, xL_45, xS_45, xL_46, xS_46, xq_30, xq_42, ↓xr_1_0, ↓xr_1_1, ↓xr_1_2, ↓xr_1_3, ↓xr_1_4, ↓xh_1_0, ↓xh_1_1, ↓xh_1_2, ↓xh_1_3, ↓xh_1_4, xo_1, xL_2, xL_3, xL_4, xL_5, xL_6, ↓xr_10_0, ↓xr_10_1, ↓xr_10_2, ↓xr_10_3, ↓xr_10_4, ↓xh_10_0, ↓xh_10_1, ↓xh_10_2, ↓xh_10_3, ↓xh_10_4, xo_10, xL_11, xL_12, xL_13, xL_14, xL_15, ↓xr_18_0, ↓xr_18_1, ↓xr_18_2, ↓xr_18_3, ↓xr_18_4, ↓xh_18_0, ↓xh_18_1, ↓xh_18_2, ↓xh_18_3, ↓xh_18_4, xo_18, xL_19, xL_20, xL_21, xL_22, xL_23, uA_s, uA_n, uG_s, uG_n, ne_eq, Nat.reduceEqDiff, not_false_eq_true, cI_lt, cI_eq, ↓reduceIte, if_true, if_false, Nat.lt_irrefl, eq_self, Nat.reduceEqDiff, or_true, true_or, or_false, false_or, not_false_eq_true, not_true_eq_false, ce_5, zb_t, zb_f]
  | j + 1, c, A, h, hn => by
    have hC := hg.C5
    have hR := hg.RC
    have hc : c < (G 1).C := by omega
    have hd0 : 0 < d := by omega
    have hok : ∀ (a b c d : Value) (x y z : Int32) (e : Nat), z_okS 8 [.int x, .int y, .int z, .ref e] = true := fun _ _ _ _ x y z e => by simp only [okS_I, okS_R, okS_0]
    cases e : (G 1).fr r c bz us
    · have t0 : (G 1).tc k r bz us c = false := by unfold GS.tc; rw [e, Bool.and_false, Bool.false_and]
      obtain ⟨F, f1, f2, f3⟩ := t_ch1 hg hd hr bz us ih j (c + 1) A (by omega) (fun i hi => by
        by_cases z : i = c
        · rw [z]; exact t0
        · exact hn i (by omega))
      refine ⟨F, f1, f2, fun q P => ?_⟩
      rw [← f3 q P, ze_64_16]
      simp (disch := omega) only [ze_64_0, ze_64_1, ze_64_2, ze_64_5, ze_64_8, ze_64_11, ze_64_12, ze_64_13, ze_64_14, ze_64_18, ze_64_19, ze_64_22, ze_64_25, ze_64_28, ze_64_29, ze_64_30, ze_64_32, ze_64_33, ze_64_34, ze_64_37, ze_64_40, ze_64_41, ze_64_44, ze_64_45, ze_64_47, ze_64_48, ze_64_49, ze_64_50, ze_64_51, ze_64_52, ze_64_53, ze_64_54, ze_64_56, ze_64_57, ze_64_58, ze_64_59, ze_64_60, ze_64_61, ze_64_63, ze_64_66, ze_64_67, ze_64_70, ze_64_73, ze_64_74, ze_64_75, ze_64_78, ze_64_81, ze_64_82, z_k_r, z_push_s, z_push_n, okS_0, okS_I, okS_R, okS_A, List.getElem?_cons_zero, List.getElem?_cons_succ, List.length_cons, List.length_nil, List.set_cons_zero, List.set_cons_succ, true_and, and_true, z_tI, z_tB, pk_mul, nI_add, cI_cl, cI_ix, nar_0, nar_1, nar_b, Nat.reduceAdd, Nat.reduceLT, Nat.reduceMul, ↓xr_0_0, ↓xr_0_1, ↓xr_0_2, ↓xr_0_3, ↓xr_0_4, ↓xr_0_5, ↓xr_0_6, ↓xr_0_7, ↓xr_0_8, ↓xr_0_9, ↓xg_14, xp_14, xo_0, ↓xr_7_0, ↓xg_0, xp_0, ↓xg_1, xp_1, ↓xg_2, xp_2, ↓xg_3, xp_3, ↓xg_4, xp_4, ↓xg_5, xp_5, xo_7, ↓xr_9_0, ↓xr_9_1, ↓xg_6, xp_6, ↓xg_7, xp_7, xo_9, ↓xr_16_0, xo_16, ↓xr_17_0, ↓xr_17_1, ↓xr_17_2, ↓xg_8, xp_8, xo_17, ↓xr_25_0, ↓xr_25_1, ↓xg_9, xp_9, ↓xg_10, xp_10, xo_25, ↓xr_27_0, ↓xr_27_1, ↓xg_11, xp_11, xo_27, ↓xr_29_0, ↓xg_12, xp_12, ↓xg_13, xp_13, xo_29, ↓xr_41_0, ↓xr_41_1, xo_41, xL_8, xS_8, xL_24, xS_24, xL_26, xS_26, xL_28, xS_28, xL_31, xS_31, xL_32, xS_32, xL_33, xS_33, xL_34, xS_34, xL_35, xS_35, xL_36, xS_36, xL_37, xS_37, xL_38, xS_38, xL_39, xS_39, xL_40, xS_40, xL_43, xS_43, xL_44, xS_44, xL_45, xS_45, xL_46, xS_46, xq_30, xq_42, ↓xr_1_0, ↓xr_1_1, ↓xr_1_2, ↓xr_1_3, ↓xr_1_4, ↓xh_1_0, ↓xh_1_1, ↓xh_1_2, ↓xh_1_3, ↓xh_1_4, xo_1, xL_2, xL_3, xL_4, xL_5, xL_6, ↓xr_10_0, ↓xr_10_1, ↓xr_10_2, ↓xr_10_3, ↓xr_10_4, ↓xh_10_0, ↓xh_10_1, ↓xh_10_2, ↓xh_10_3, ↓xh_10_4, xo_10, xL_11, xL_12, xL_13, xL_14, xL_15, ↓xr_18_0, ↓xr_18_1, ↓xr_18_2, ↓xr_18_3, ↓xr_18_4, ↓xh_18_0, ↓xh_18_1, ↓xh_18_2, ↓xh_18_3, ↓xh_18_4, xo_18, xL_19, xL_20, xL_21, xL_22, xL_23, uA_s, uA_n, uG_s, uG_n, ne_eq, Nat.reduceEqDiff, not_false_eq_true, cI_lt, cI_eq, ↓reduceIte, if_true, if_false, Nat.lt_irrefl, eq_self, Nat.reduceEqDiff, or_true, true_or, or_false, false_or, not_false_eq_true, not_true_eq_false, ce_5, zb_t, zb_f, hc, hd0, x_free hg.c5, e, zb_0]
    · obtain ⟨F1, a1, a2, a3⟩ := ih (ad bz c) (ad us ((G 1).c (r * 5 + c))) (uA A 26 (upd (A 26) r (nI c)))
      simp only [uA_uA] at a3
      rw [uA_s] at a1
      by_cases e2 : 0 < (G 1).ac (fxc (-1) (-1)) k (r + 1) (ad bz c) (ad us ((G 1).c (r * 5 + c)))
      · have t1 : (G 1).tc k r bz us c = true := by unfold GS.tc; rw [e, decide_eq_true hc, decide_eq_true e2]; rfl
        have pos : 0 < (G 1).ac (fxc (-1) (-1)) (k + 1) r bz us := (ac_pos (by omega)).mpr ⟨c, t1⟩
        have fcc : (G 1).fc k r bz us = c := low_is (by omega) t1 hn
        refine ⟨F1, fun i hi => ?_, fun _ i hi => ?_, fun q P => ?_⟩
        · rw [a1 i (by omega), upd_ne (by omega)]
        · cases i with
          | zero =>
            rw [Nat.add_zero, a1 r (by omega), upd_at]
            show nI c = nI ((G 1).fc k r bz us)
            rw [fcc]
          | succ i =>
            rw [show r + (i + 1) = r + 1 + i by omega, a2 e2 i (by omega)]
            show nI _ = nI ((G 1).FT k (r + 1) (ad bz ((G 1).fc k r bz us)) (ad us ((G 1).c (r * 5 + (G 1).fc k r bz us))) i)
            rw [fcc]
        · rw [ze_64_16, decide_eq_true pos]
          rw [decide_eq_true e2] at a3
          unfold ad at a3
          simp (disch := omega) only [ze_64_0, ze_64_1, ze_64_2, ze_64_5, ze_64_8, ze_64_11, ze_64_12, ze_64_13, ze_64_14, ze_64_18, ze_64_19, ze_64_22, ze_64_25, ze_64_28, ze_64_29, ze_64_30, ze_64_32, ze_64_33, ze_64_34, ze_64_37, ze_64_40, ze_64_41, ze_64_44, ze_64_45, ze_64_47, ze_64_48, ze_64_49, ze_64_50, ze_64_51, ze_64_52, ze_64_53, ze_64_54, ze_64_56, ze_64_57, ze_64_58, ze_64_59, ze_64_60, ze_64_61, ze_64_63, ze_64_66, ze_64_67, ze_64_70, ze_64_73, ze_64_74, ze_64_75, ze_64_78, ze_64_81, ze_64_82, z_k_r, z_push_s, z_push_n, okS_0, okS_I, okS_R, okS_A, List.getElem?_cons_zero, List.getElem?_cons_succ, List.length_cons, List.length_nil, List.set_cons_zero, List.set_cons_succ, true_and, and_true, z_tI, z_tB, pk_mul, nI_add, cI_cl, cI_ix, nar_0, nar_1, nar_b, Nat.reduceAdd, Nat.reduceLT, Nat.reduceMul, ↓xr_0_0, ↓xr_0_1, ↓xr_0_2, ↓xr_0_3, ↓xr_0_4, ↓xr_0_5, ↓xr_0_6, ↓xr_0_7, ↓xr_0_8, ↓xr_0_9, ↓xg_14, xp_14, xo_0, ↓xr_7_0, ↓xg_0, xp_0, ↓xg_1, xp_1, ↓xg_2, xp_2, ↓xg_3, xp_3, ↓xg_4, xp_4, ↓xg_5, xp_5, xo_7, ↓xr_9_0, ↓xr_9_1, ↓xg_6, xp_6, ↓xg_7, xp_7, xo_9, ↓xr_16_0, xo_16, ↓xr_17_0, ↓xr_17_1, ↓xr_17_2, ↓xg_8, xp_8, xo_17, ↓xr_25_0, ↓xr_25_1, ↓xg_9, xp_9, ↓xg_10, xp_10, xo_25, ↓xr_27_0, ↓xr_27_1, ↓xg_11, xp_11, xo_27, ↓xr_29_0, ↓xg_12, xp_12, ↓xg_13, xp_13, xo_29, ↓xr_41_0, ↓xr_41_1, xo_41, xL_8, xS_8, xL_24, xS_24, xL_26, xS_26, xL_28, xS_28, xL_31, xS_31, xL_32, xS_32, xL_33, xS_33, xL_34, xS_34, xL_35, xS_35, xL_36, xS_36, xL_37, xS_37, xL_38, xS_38, xL_39, xS_39, xL_40, xS_40, xL_43, xS_43, xL_44, xS_44, xL_45, xS_45, xL_46, xS_46, xq_30, xq_42, ↓xr_1_0, ↓xr_1_1, ↓xr_1_2, ↓xr_1_3, ↓xr_1_4, ↓xh_1_0, ↓xh_1_1, ↓xh_1_2, ↓xh_1_3, ↓xh_1_4, xo_1, xL_2, xL_3, xL_4, xL_5, xL_6, ↓xr_10_0, ↓xr_10_1, ↓xr_10_2, ↓xr_10_3, ↓xr_10_4, ↓xh_10_0, ↓xh_10_1, ↓xh_10_2, ↓xh_10_3, ↓xh_10_4, xo_10, xL_11, xL_12, xL_13, xL_14, xL_15, ↓xr_18_0, ↓xr_18_1, ↓xr_18_2, ↓xr_18_3, ↓xr_18_4, ↓xh_18_0, ↓xh_18_1, ↓xh_18_2, ↓xh_18_3, ↓xh_18_4, xo_18, xL_19, xL_20, xL_21, xL_22, xL_23, uA_s, uA_n, uG_s, uG_n, ne_eq, Nat.reduceEqDiff, not_false_eq_true, cI_lt, cI_eq, ↓reduceIte, if_true, if_false, Nat.lt_irrefl, eq_self, Nat.reduceEqDiff, or_true, true_or, or_false, false_or, not_false_eq_true, not_true_eq_false, ce_5, zb_t, zb_f, hc, hd0, x_free hg.c5, x_bit hg.c5, e, zb_0, Bool.true_eq_false, sS_one, sS_or, a3]
      · have t0 : (G 1).tc k r bz us c = false := by unfold GS.tc; rw [decide_eq_false e2, Bool.and_false]
        obtain ⟨F, f1, f2, f3⟩ := t_ch1 hg hd hr bz us ih j (c + 1) (uA A 26 F1) (by omega) (fun i hi => by
          by_cases z : i = c
          · rw [z]; exact t0
          · exact hn i (by omega))
        simp only [uA_uA] at f3
        rw [uA_s] at f1
        refine ⟨F, fun i hi => by rw [f1 i hi, a1 i (by omega), upd_ne (by omega)], f2, fun q P => ?_⟩
        rw [← f3 q P, ze_64_16]
        rw [decide_eq_false e2] at a3
        unfold ad at a3
        simp (disch := omega) only [ze_64_0, ze_64_1, ze_64_2, ze_64_5, ze_64_8, ze_64_11, ze_64_12, ze_64_13, ze_64_14, ze_64_18, ze_64_19, ze_64_22, ze_64_25, ze_64_28, ze_64_29, ze_64_30, ze_64_32, ze_64_33, ze_64_34, ze_64_37, ze_64_40, ze_64_41, ze_64_44, ze_64_45, ze_64_47, ze_64_48, ze_64_49, ze_64_50, ze_64_51, ze_64_52, ze_64_53, ze_64_54, ze_64_56, ze_64_57, ze_64_58, ze_64_59, ze_64_60, ze_64_61, ze_64_63, ze_64_66, ze_64_67, ze_64_70, ze_64_73, ze_64_74, ze_64_75, ze_64_78, ze_64_81, ze_64_82, z_k_r, z_push_s, z_push_n, okS_0, okS_I, okS_R, okS_A, List.getElem?_cons_zero, List.getElem?_cons_succ, List.length_cons, List.length_nil, List.set_cons_zero, List.set_cons_succ, true_and, and_true, z_tI, z_tB, pk_mul, nI_add, cI_cl, cI_ix, nar_0, nar_1, nar_b, Nat.reduceAdd, Nat.reduceLT, Nat.reduceMul, ↓xr_0_0, ↓xr_0_1, ↓xr_0_2, ↓xr_0_3, ↓xr_0_4, ↓xr_0_5, ↓xr_0_6, ↓xr_0_7, ↓xr_0_8, ↓xr_0_9, ↓xg_14, xp_14, xo_0, ↓xr_7_0, ↓xg_0, xp_0, ↓xg_1, xp_1, ↓xg_2, xp_2, ↓xg_3, xp_3, ↓xg_4, xp_4, ↓xg_5, xp_5, xo_7, ↓xr_9_0, ↓xr_9_1, ↓xg_6, xp_6, ↓xg_7, xp_7, xo_9, ↓xr_16_0, xo_16, ↓xr_17_0, ↓xr_17_1, ↓xr_17_2, ↓xg_8, xp_8, xo_17, ↓xr_25_0, ↓xr_25_1, ↓xg_9, xp_9, ↓xg_10, xp_10, xo_25, ↓xr_27_0, ↓xr_27_1, ↓xg_11, xp_11, xo_27, ↓xr_29_0, ↓xg_12, xp_12, ↓xg_13, xp_13, xo_29, ↓xr_41_0, ↓xr_41_1, xo_41, xL_8, xS_8, xL_24, xS_24, xL_26, xS_26, xL_28, xS_28, xL_31, xS_31, xL_32, xS_32, xL_33, xS_33, xL_34, xS_34, xL_35, xS_35, xL_36, xS_36, xL_37, xS_37, xL_38, xS_38, xL_39, xS_39, xL_40, xS_40, xL_43, xS_43, xL_44, xS_44, xL_45, xS_45, xL_46, xS_46, xq_30, xq_42, ↓xr_1_0, ↓xr_1_1, ↓xr_1_2, ↓xr_1_3, ↓xr_1_4, ↓xh_1_0, ↓xh_1_1, ↓xh_1_2, ↓xh_1_3, ↓xh_1_4, xo_1, xL_2, xL_3, xL_4, xL_5, xL_6, ↓xr_10_0, ↓xr_10_1, ↓xr_10_2, ↓xr_10_3, ↓xr_10_4, ↓xh_10_0, ↓xh_10_1, ↓xh_10_2, ↓xh_10_3, ↓xh_10_4, xo_10, xL_11, xL_12, xL_13, xL_14, xL_15, ↓xr_18_0, ↓xr_18_1, ↓xr_18_2, ↓xr_18_3, ↓xr_18_4, ↓xh_18_0, ↓xh_18_1, ↓xh_18_2, ↓xh_18_3, ↓xh_18_4, xo_18, xL_19, xL_20, xL_21, xL_22, xL_23, uA_s, uA_n, uG_s, uG_n, ne_eq, Nat.reduceEqDiff, not_false_eq_true, cI_lt, cI_eq, ↓reduceIte, if_true, if_false, Nat.lt_irrefl, eq_self, Nat.reduceEqDiff, or_true, true_or, or_false, false_or, not_false_eq_true, not_true_eq_false, ce_5, zb_t, zb_f, hc, hd0, x_free hg.c5, x_bit hg.c5, e, zb_0, Bool.true_eq_false, sS_one, sS_or, a3]
theorem t_ch (hg : GI (G 1)) : ∀ (k d r : Nat), r + k = (G 1).R → k + 2 < d → ∀ (bz us : Nat → Bool) (A : Nat → Nat → Int32), ∃ F, (∀ i, i < r → F i = A 26 i) ∧ (0 < (G 1).ac (fxc (-1) (-1)) k r bz us → ∀ i, i < k → F (r + i) = nI ((G 1).FT k r bz us i)) ∧ ∀ (q : Option Nat × Nat × Nat) (P : z_Res → Prop), z_Ca g d 64 [.ref (B + 25), .int (nI r), .int (sS bz), .int (sS us)] (xw f B G I A, q) P = P (.inr (some (.int (zb (decide (0 < (G 1).ac (fxc (-1) (-1)) k r bz us))))), (xw f B G I (uA A 26 F), q))
  | 0, d, r, h, hd, bz, us, A => by
    have : r = (G 1).R := by omega
    subst this
    have hC := hg.C5
    have hRC := hg.RC
    refine ⟨A 26, fun _ _ => rfl, fun _ i hi => by omega, fun q P => ?_⟩
    rw [uA_id, zn_64]
    simp (disch := omega) only [ze_64_0, ze_64_1, ze_64_2, ze_64_5, ze_64_8, ze_64_11, ze_64_12, ze_64_13, ze_64_14, ze_64_18, ze_64_19, ze_64_22, ze_64_25, ze_64_28, ze_64_29, ze_64_30, ze_64_32, ze_64_33, ze_64_34, ze_64_37, ze_64_40, ze_64_41, ze_64_44, ze_64_45, ze_64_47, ze_64_48, ze_64_49, ze_64_50, ze_64_51, ze_64_52, ze_64_53, ze_64_54, ze_64_56, ze_64_57, ze_64_58, ze_64_59, ze_64_60, ze_64_61, ze_64_63, ze_64_66, ze_64_67, ze_64_70, ze_64_73, ze_64_74, ze_64_75, ze_64_78, ze_64_81, ze_64_82, z_k_r, z_push_s, z_push_n, okS_0, okS_I, okS_R, okS_A, List.getElem?_cons_zero, List.getElem?_cons_succ, List.length_cons, List.length_nil, List.set_cons_zero, List.set_cons_succ, true_and, and_true, z_tI, z_tB, pk_mul, nI_add, cI_cl, cI_ix, nar_0, nar_1, nar_b, Nat.reduceAdd, Nat.reduceLT, Nat.reduceMul, ↓xr_0_0, ↓xr_0_1, ↓xr_0_2, ↓xr_0_3, ↓xr_0_4, ↓xr_0_5, ↓xr_0_6, ↓xr_0_7, ↓xr_0_8, ↓xr_0_9, ↓xg_14, xp_14, xo_0, ↓xr_7_0, ↓xg_0, xp_0, ↓xg_1, xp_1, ↓xg_2, xp_2, ↓xg_3, xp_3, ↓xg_4, xp_4, ↓xg_5, xp_5, xo_7, ↓xr_9_0, ↓xr_9_1, ↓xg_6, xp_6, ↓xg_7, xp_7, xo_9, ↓xr_16_0, xo_16, ↓xr_17_0, ↓xr_17_1, ↓xr_17_2, ↓xg_8, xp_8, xo_17, ↓xr_25_0, ↓xr_25_1, ↓xg_9, xp_9, ↓xg_10, xp_10, xo_25, ↓xr_27_0, ↓xr_27_1, ↓xg_11, xp_11, xo_27, ↓xr_29_0, ↓xg_12, xp_12, ↓xg_13, xp_13, xo_29, ↓xr_41_0, ↓xr_41_1, xo_41, xL_8, xS_8, xL_24, xS_24, xL_26, xS_26, xL_28, xS_28, xL_31, xS_31, xL_32, xS_32, xL_33, xS_33, xL_34, xS_34, xL_35, xS_35, xL_36, xS_36, xL_37, xS_37, xL_38, xS_38, xL_39, xS_39, xL_40, xS_40, xL_43, xS_43, xL_44, xS_44, xL_45, xS_45, xL_46, xS_46, xq_30, xq_42, ↓xr_1_0, ↓xr_1_1, ↓xr_1_2, ↓xr_1_3, ↓xr_1_4, ↓xh_1_0, ↓xh_1_1, ↓xh_1_2, ↓xh_1_3, ↓xh_1_4, xo_1, xL_2, xL_3, xL_4, xL_5, xL_6, ↓xr_10_0, ↓xr_10_1, ↓xr_10_2, ↓xr_10_3, ↓xr_10_4, ↓xh_10_0, ↓xh_10_1, ↓xh_10_2, ↓xh_10_3, ↓xh_10_4, xo_10, xL_11, xL_12, xL_13, xL_14, xL_15, ↓xr_18_0, ↓xr_18_1, ↓xr_18_2, ↓xr_18_3, ↓xr_18_4, ↓xh_18_0, ↓xh_18_1, ↓xh_18_2, ↓xh_18_3, ↓xh_18_4, xo_18, xL_19, xL_20, xL_21, xL_22, xL_23, uA_s, uA_n, uG_s, uG_n, ne_eq, Nat.reduceEqDiff, not_false_eq_true, cI_lt, cI_eq, ↓reduceIte, if_true, if_false, Nat.lt_irrefl, eq_self, Nat.reduceEqDiff, or_true, true_or, or_false, false_or, not_false_eq_true, not_true_eq_false, ce_5, zb_t, zb_f]
    rfl
  | k + 1, d, r, h, hd, bz, us, A => by
    have hr : r < (G 1).R := by omega
    have hC := hg.C5
    have hRC := hg.RC
    obtain ⟨F, f1, f2, f3⟩ := t_ch1 (g := g) (f := f) (B := B) (I := I) (d := d) hg (by omega) hr bz us (fun bz us A => t_ch hg k (d - 1) (r + 1) (by omega) (by omega) bz us A) (G 1).C 0 A (by omega) (fun i hi => by omega)
    refine ⟨F, f1, f2, fun q P => ?_⟩
    rw [← f3 q P, zn_64]
    simp (disch := omega) only [ze_64_0, ze_64_1, ze_64_2, ze_64_5, ze_64_8, ze_64_11, ze_64_12, ze_64_13, ze_64_14, ze_64_18, ze_64_19, ze_64_22, ze_64_25, ze_64_28, ze_64_29, ze_64_30, ze_64_32, ze_64_33, ze_64_34, ze_64_37, ze_64_40, ze_64_41, ze_64_44, ze_64_45, ze_64_47, ze_64_48, ze_64_49, ze_64_50, ze_64_51, ze_64_52, ze_64_53, ze_64_54, ze_64_56, ze_64_57, ze_64_58, ze_64_59, ze_64_60, ze_64_61, ze_64_63, ze_64_66, ze_64_67, ze_64_70, ze_64_73, ze_64_74, ze_64_75, ze_64_78, ze_64_81, ze_64_82, z_k_r, z_push_s, z_push_n, okS_0, okS_I, okS_R, okS_A, List.getElem?_cons_zero, List.getElem?_cons_succ, List.length_cons, List.length_nil, List.set_cons_zero, List.set_cons_succ, true_and, and_true, z_tI, z_tB, pk_mul, nI_add, cI_cl, cI_ix, nar_0, nar_1, nar_b, Nat.reduceAdd, Nat.reduceLT, Nat.reduceMul, ↓xr_0_0, ↓xr_0_1, ↓xr_0_2, ↓xr_0_3, ↓xr_0_4, ↓xr_0_5, ↓xr_0_6, ↓xr_0_7, ↓xr_0_8, ↓xr_0_9, ↓xg_14, xp_14, xo_0, ↓xr_7_0, ↓xg_0, xp_0, ↓xg_1, xp_1, ↓xg_2, xp_2, ↓xg_3, xp_3, ↓xg_4, xp_4, ↓xg_5, xp_5, xo_7, ↓xr_9_0, ↓xr_9_1, ↓xg_6, xp_6, ↓xg_7, xp_7, xo_9, ↓xr_16_0, xo_16, ↓xr_17_0, ↓xr_17_1, ↓xr_17_2, ↓xg_8, xp_8, xo_17, ↓xr_25_0, ↓xr_25_1, ↓xg_9, xp_9, ↓xg_10, xp_10, xo_25, ↓xr_27_0, ↓xr_27_1, ↓xg_11, xp_11, xo_27, ↓xr_29_0, ↓xg_12, xp_12, ↓xg_13, xp_13, xo_29, ↓xr_41_0, ↓xr_41_1, xo_41, xL_8, xS_8, xL_24, xS_24, xL_26, xS_26, xL_28, xS_28, xL_31, xS_31, xL_32, xS_32, xL_33, xS_33, xL_34, xS_34, xL_35, xS_35, xL_36, xS_36, xL_37, xS_37, xL_38, xS_38, xL_39, xS_39, xL_40, xS_40, xL_43, xS_43, xL_44, xS_44, xL_45, xS_45, xL_46, xS_46, xq_30, xq_42, ↓xr_1_0, ↓xr_1_1, ↓xr_1_2, ↓xr_1_3, ↓xr_1_4, ↓xh_1_0, ↓xh_1_1, ↓xh_1_2, ↓xh_1_3, ↓xh_1_4, xo_1, xL_2, xL_3, xL_4, xL_5, xL_6, ↓xr_10_0, ↓xr_10_1, ↓xr_10_2, ↓xr_10_3, ↓xr_10_4, ↓xh_10_0, ↓xh_10_1, ↓xh_10_2, ↓xh_10_3, ↓xh_10_4, xo_10, xL_11, xL_12, xL_13, xL_14, xL_15, ↓xr_18_0, ↓xr_18_1, ↓xr_18_2, ↓xr_18_3, ↓xr_18_4, ↓xh_18_0, ↓xh_18_1, ↓xh_18_2, ↓xh_18_3, ↓xh_18_4, xo_18, xL_19, xL_20, xL_21, xL_22, xL_23, uA_s, uA_n, uG_s, uG_n, ne_eq, Nat.reduceEqDiff, not_false_eq_true, cI_lt, cI_eq, ↓reduceIte, if_true, if_false, Nat.lt_irrefl, eq_self, Nat.reduceEqDiff, or_true, true_or, or_false, false_or, not_false_eq_true, not_true_eq_false, ce_5, zb_t, zb_f, hr]
def noB : Nat → Bool := fun _ => false
def GS.ftV (S : GS) (r : Nat) : Int32 := if 0 < S.ac (fxc (-1) (-1)) S.R 0 noB noB then nI (S.FT S.R 0 noB noB r) else -1
theorem t_first (hg : GI (G 1)) (hd : 10 < d) {r : Nat} (hr : r < (G 1).R) : ∃ F, ∀ (q : Option Nat × Nat × Nat) (P : z_Res → Prop), z_Ca g d 62 [.ref (B + 25), .int (nI r)] (xw f B G I A, q) P = P (.inr (some (.int ((G 1).ftV r))), (xw f B G I (uA A 26 F), q)) := by
  have hC := hg.C5
  have hRC := hg.RC
  have hd0 : 0 < d := by omega
  obtain ⟨F, f1, f2, f3⟩ := t_ch (g := g) (f := f) (B := B) (I := I) hg (G 1).R (d - 1) 0 (by omega) (by omega) noB noB A
  have z0 : sS noB = nI 0 := rfl
  rw [z0] at f3
  refine ⟨F, fun q P => ?_⟩
  unfold GS.ftV
  rw [zn_62]
  simp (disch := omega) only [ze_62_0, ze_62_1, ze_62_2, ze_62_3, ze_62_4, ze_62_7, ze_62_10, ze_62_11, ze_62_14, ze_62_15, ze_62_16, ze_62_19, ze_62_20, z_k_r, z_push_s, z_push_n, okS_0, okS_I, okS_R, okS_A, List.getElem?_cons_zero, List.getElem?_cons_succ, List.length_cons, List.length_nil, List.set_cons_zero, List.set_cons_succ, true_and, and_true, z_tI, z_tB, pk_mul, nI_add, cI_cl, cI_ix, nar_0, nar_1, nar_b, Nat.reduceAdd, Nat.reduceLT, Nat.reduceMul, ↓xr_0_0, ↓xr_0_1, ↓xr_0_2, ↓xr_0_3, ↓xr_0_4, ↓xr_0_5, ↓xr_0_6, ↓xr_0_7, ↓xr_0_8, ↓xr_0_9, ↓xg_14, xp_14, xo_0, ↓xr_7_0, ↓xg_0, xp_0, ↓xg_1, xp_1, ↓xg_2, xp_2, ↓xg_3, xp_3, ↓xg_4, xp_4, ↓xg_5, xp_5, xo_7, ↓xr_9_0, ↓xr_9_1, ↓xg_6, xp_6, ↓xg_7, xp_7, xo_9, ↓xr_16_0, xo_16, ↓xr_17_0, ↓xr_17_1, ↓xr_17_2, ↓xg_8, xp_8, xo_17, ↓xr_25_0, ↓xr_25_1, ↓xg_9, xp_9, ↓xg_10, xp_10, xo_25, ↓xr_27_0, ↓xr_27_1, ↓xg_11, xp_11, xo_27, ↓xr_29_0, ↓xg_12, xp_12, ↓xg_13, xp_13, xo_29, ↓xr_41_0, ↓xr_41_1, xo_41, xL_8, xS_8, xL_24, xS_24, xL_26, xS_26, xL_28, xS_28, xL_31, xS_31, xL_32, xS_32, xL_33, xS_33, xL_34, xS_34, xL_35, xS_35, xL_36, xS_36, xL_37, xS_37, xL_38, xS_38, xL_39, xS_39, xL_40, xS_40, xL_43, xS_43, xL_44, xS_44, xL_45, xS_45, xL_46, xS_46, xq_30, xq_42, ↓xr_1_0, ↓xr_1_1, ↓xr_1_2, ↓xr_1_3, ↓xr_1_4, ↓xh_1_0, ↓xh_1_1, ↓xh_1_2, ↓xh_1_3, ↓xh_1_4, xo_1, xL_2, xL_3, xL_4, xL_5, xL_6, ↓xr_10_0, ↓xr_10_1, ↓xr_10_2, ↓xr_10_3, ↓xr_10_4, ↓xh_10_0, ↓xh_10_1, ↓xh_10_2, ↓xh_10_3, ↓xh_10_4, xo_10, xL_11, xL_12, xL_13, xL_14, xL_15, ↓xr_18_0, ↓xr_18_1, ↓xr_18_2, ↓xr_18_3, ↓xr_18_4, ↓xh_18_0, ↓xh_18_1, ↓xh_18_2, ↓xh_18_3, ↓xh_18_4, xo_18, xL_19, xL_20, xL_21, xL_22, xL_23, uA_s, uA_n, uG_s, uG_n, ne_eq, Nat.reduceEqDiff, not_false_eq_true, cI_lt, cI_eq, ↓reduceIte, if_true, if_false, Nat.lt_irrefl, eq_self, Nat.reduceEqDiff, or_true, true_or, or_false, false_or, not_false_eq_true, not_true_eq_false, ce_5, zb_t, zb_f, hd0, f3, zb_0]
  by_cases e : 0 < (G 1).ac (fxc (-1) (-1)) (G 1).R 0 noB noB
  · have := f2 e r hr
    rw [Nat.zero_add] at this
    simp (disch := omega) only [e, if_true, decide_true, Bool.true_eq_false, if_false, ze_62_0, ze_62_1, ze_62_2, ze_62_3, ze_62_4, ze_62_7, ze_62_10, ze_62_11, ze_62_14, ze_62_15, ze_62_16, ze_62_19, ze_62_20, z_k_r, z_push_s, z_push_n, okS_0, okS_I, okS_R, okS_A, List.getElem?_cons_zero, List.getElem?_cons_succ, List.length_cons, List.length_nil, List.set_cons_zero, List.set_cons_succ, true_and, and_true, z_tI, z_tB, pk_mul, nI_add, cI_cl, cI_ix, nar_0, nar_1, nar_b, Nat.reduceAdd, Nat.reduceLT, Nat.reduceMul, ↓xr_0_0, ↓xr_0_1, ↓xr_0_2, ↓xr_0_3, ↓xr_0_4, ↓xr_0_5, ↓xr_0_6, ↓xr_0_7, ↓xr_0_8, ↓xr_0_9, ↓xg_14, xp_14, xo_0, ↓xr_7_0, ↓xg_0, xp_0, ↓xg_1, xp_1, ↓xg_2, xp_2, ↓xg_3, xp_3, ↓xg_4, xp_4, ↓xg_5, xp_5, xo_7, ↓xr_9_0, ↓xr_9_1, ↓xg_6, xp_6, ↓xg_7, xp_7, xo_9, ↓xr_16_0, xo_16, ↓xr_17_0, ↓xr_17_1, ↓xr_17_2, ↓xg_8, xp_8, xo_17, ↓xr_25_0, ↓xr_25_1, ↓xg_9, xp_9, ↓xg_10, xp_10, xo_25, ↓xr_27_0, ↓xr_27_1, ↓xg_11, xp_11, xo_27, ↓xr_29_0, ↓xg_12, xp_12, ↓xg_13, xp_13, xo_29, ↓xr_41_0, ↓xr_41_1, xo_41, xL_8, xS_8, xL_24, xS_24, xL_26, xS_26, xL_28, xS_28, xL_31, xS_31, xL_32, xS_32, xL_33, xS_33, xL_34, xS_34, xL_35, xS_35, xL_36, xS_36, xL_37, xS_37, xL_38, xS_38, xL_39, xS_39, xL_40, xS_40, xL_43, xS_43, xL_44, xS_44, xL_45, xS_45, xL_46, xS_46, xq_30, xq_42, ↓xr_1_0, ↓xr_1_1, ↓xr_1_2, ↓xr_1_3, ↓xr_1_4, ↓xh_1_0, ↓xh_1_1, ↓xh_1_2, ↓xh_1_3, ↓xh_1_4, xo_1, xL_2, xL_3, xL_4, xL_5, xL_6, ↓xr_10_0, ↓xr_10_1, ↓xr_10_2, ↓xr_10_3, ↓xr_10_4, ↓xh_10_0, ↓xh_10_1, ↓xh_10_2, ↓xh_10_3, ↓xh_10_4, xo_10, xL_11, xL_12, xL_13, xL_14, xL_15, ↓xr_18_0, ↓xr_18_1, ↓xr_18_2, ↓xr_18_3, ↓xr_18_4, ↓xh_18_0, ↓xh_18_1, ↓xh_18_2, ↓xh_18_3, ↓xh_18_4, xo_18, xL_19, xL_20, xL_21, xL_22, xL_23, uA_s, uA_n, uG_s, uG_n, ne_eq, Nat.reduceEqDiff, not_false_eq_true, this]
  · simp (disch := omega) only [e, if_false, decide_false, if_true]
end
section
variable {g : z_G} {d : Nat} {f : Nat → Option z_C} {q : Option Nat × Nat × Nat} {P : z_Res → Prop} {m : Nat} {I : Nat → Int32} {A : Nat → Nat → Int32} {S : GS}
end
