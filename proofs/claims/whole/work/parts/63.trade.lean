/-! trades, on both sides -/
theorem any_t {p : Nat → Bool} {n k : Nat} (h : k < n) (e : p k = true) : anyB p n = true := (anyB_iff p n).mpr ⟨k, h, e⟩
theorem any_f {p : Nat → Bool} {n : Nat} : anyB p n = false ↔ ∀ k, k < n → p k = false := by
  constructor
  · intro h k hk
    cases e : p k
    · rfl
    · rw [any_t hk e] at h
      cases h
  · intro h
    cases e : anyB p n
    · rfl
    · obtain ⟨k, h1, h2⟩ := (anyB_iff p n).mp e
      rw [h k h1] at h2
      cases h2
theorem any_congr {p p' : Nat → Bool} {n : Nat} (h : ∀ k, k < n → p k = p' k) : anyB p n = anyB p' n := by
  apply b_ext2
  rw [anyB_iff, anyB_iff]
  constructor
  · rintro ⟨k, h1, h2⟩
    exact ⟨k, h1, by rw [← h k h1]; exact h2⟩
  · rintro ⟨k, h1, h2⟩
    exact ⟨k, h1, by rw [h k h1]; exact h2⟩
def bd (c t : Nat → Nat) (k : Nat) : Bool := df c t k && (decide (c k = 5) || decide (t k = 5))
def cb (c t : Nat → Nat) (fi st s : Nat) : Bool := anyB (fun n => df c t (fi + n * st) && decide (c (fi + n * st) = s)) 5
def lnE (c t : Nat → Nat) (l : Nat) : Bool := decide (sS (cb c t (l * 5) 1) = sS (cb t c (l * 5) 1)) && decide (sS (cb c t l 5) = sS (cb t c l 5))
def tr (c t : Nat → Nat) : Bool := !decide (ct (df c t) 0 25 = 0) && (!anyB (bd c t) 25 && !anyB (fun l => !lnE c t l) 5)
theorem df_comm (c t : Nat → Nat) (k : Nat) : df t c k = df c t k := by
  unfold df
  congr 1
  exact decide_eq_decide.mpr ⟨Eq.symm, Eq.symm⟩
section
variable {g : z_G} {d : Nat} {f : Nat → Option z_C} {q : Option Nat × Nat × Nat} {P : z_Res → Prop} {B : Nat} {G : Nat → GS} {I : Nat → Int32} {A : Nat → Nat → Int32}
theorem n_cb1 {hh : z_H} {x y : Nat} {c t : Nat → Nat} (h1 : ∀ k, k < 25 → ∀ K, z_aL hh.1 x z_tI (nI k) K = K (ce (c k))) (h2 : ∀ k, k < 25 → ∀ K, z_aL hh.1 y z_tI (nI k) K = K (ce (t k))) (hc : ∀ k, c k ≤ 5) (ht : ∀ k, t k ≤ 5) {fi st : Nat} (hb : fi + 4 * st < 25) (hn : ∀ k, k < 25 → bd c t k = false) : ∀ (k i : Nat) (v : Value), i + k = 5 → z_T g d 62 6 [.ref x, .ref y, .int (nI fi), .int (nI st), .int (sS fun s => anyB (fun n => df c t (fi + n * st) && decide (c (fi + n * st) = s)) i), .int (nI i), v] [] hh P = P (.inr (some (.int (sS (cb c t fi st)))), hh)
  | 0, i, v, h => by
    have : i = 5 := by omega
    subst this
    rw [ze_62_6]
    simp (disch := omega) only [ze_62_0, ze_62_1, ze_62_3, ze_62_4, ze_62_8, ze_62_9, ze_62_12, ze_62_13, ze_62_15, ze_62_16, ze_62_17, ze_62_18, ze_62_20, ze_62_21, ze_62_23, ze_62_24, ze_62_25, ze_62_27, ze_62_28, ze_62_31, ze_62_33, ze_62_34, ze_62_35, ze_62_37, ze_62_38, ze_62_39, ze_62_40, ze_62_42, ze_62_45, ze_62_48, ze_62_50, z_k_r, z_push_s, z_push_n, okS_0, okS_I, okS_R, okS_A, List.getElem?_cons_zero, List.getElem?_cons_succ, List.length_cons, List.length_nil, List.set_cons_zero, List.set_cons_succ, true_and, and_true, z_tI, z_tB, pk_mul, nI_add, cI_cl, cI_ix, nar_0, nar_1, nar_b, Nat.reduceAdd, Nat.reduceLT, Nat.reduceMul, cI_lt, cI_eq, ↓reduceIte, if_true, if_false, Nat.lt_irrefl, eq_self, Nat.reduceEqDiff, or_true, true_or, or_false, false_or, not_false_eq_true, not_true_eq_false, ce_5, zb_t, zb_f]
    rfl
  | k + 1, i, v, h => by
    have hi : i < 5 := by omega
    have hm : i * st ≤ 4 * st := Nat.mul_le_mul_right st (by omega)
    have hx : fi + i * st < 25 := by omega
    have e1 := ce_inj (hc (fi + i * st)) (ht (fi + i * st))
    rw [ze_62_6]
    simp (disch := omega) only [ze_62_0, ze_62_1, ze_62_3, ze_62_4, ze_62_8, ze_62_9, ze_62_12, ze_62_13, ze_62_15, ze_62_16, ze_62_17, ze_62_18, ze_62_20, ze_62_21, ze_62_23, ze_62_24, ze_62_25, ze_62_27, ze_62_28, ze_62_31, ze_62_33, ze_62_34, ze_62_35, ze_62_37, ze_62_38, ze_62_39, ze_62_40, ze_62_42, ze_62_45, ze_62_48, ze_62_50, z_k_r, z_push_s, z_push_n, okS_0, okS_I, okS_R, okS_A, List.getElem?_cons_zero, List.getElem?_cons_succ, List.length_cons, List.length_nil, List.set_cons_zero, List.set_cons_succ, true_and, and_true, z_tI, z_tB, pk_mul, nI_add, cI_cl, cI_ix, nar_0, nar_1, nar_b, Nat.reduceAdd, Nat.reduceLT, Nat.reduceMul, cI_lt, cI_eq, ↓reduceIte, if_true, if_false, Nat.lt_irrefl, eq_self, Nat.reduceEqDiff, or_true, true_or, or_false, false_or, not_false_eq_true, not_true_eq_false, ce_5, zb_t, zb_f, hi, h1 _ hx, h2 _ hx, e1]
    by_cases e : c (fi + i * st) = t (fi + i * st)
    · simp only [e, if_true]
      rw [← n_cb1 h1 h2 hc ht hb hn k (i + 1) _ (by omega)]
      rw [sS_congr (q := fun s => anyB (fun n => df c t (fi + n * st) && decide (c (fi + n * st) = s)) (i + 1))]
      intro s hs
      have : df c t (fi + i * st) = false := by unfold df; rw [decide_eq_true e]; rfl
      rw [anyB_s, this, Bool.false_and, Bool.or_false]
    · have hd : df c t (fi + i * st) = true := by unfold df; rw [decide_eq_false e]; rfl
      have h5 := hn _ hx
      unfold bd at h5
      rw [hd, Bool.true_and, Bool.or_eq_false_iff, decide_eq_false_iff_not] at h5
      have h6 : c (fi + i * st) < 5 := by have := hc (fi + i * st); have := h5.1; omega
      simp (disch := omega) only [ze_62_0, ze_62_1, ze_62_3, ze_62_4, ze_62_8, ze_62_9, ze_62_12, ze_62_13, ze_62_15, ze_62_16, ze_62_17, ze_62_18, ze_62_20, ze_62_21, ze_62_23, ze_62_24, ze_62_25, ze_62_27, ze_62_28, ze_62_31, ze_62_33, ze_62_34, ze_62_35, ze_62_37, ze_62_38, ze_62_39, ze_62_40, ze_62_42, ze_62_45, ze_62_48, ze_62_50, z_k_r, z_push_s, z_push_n, okS_0, okS_I, okS_R, okS_A, List.getElem?_cons_zero, List.getElem?_cons_succ, List.length_cons, List.length_nil, List.set_cons_zero, List.set_cons_succ, true_and, and_true, z_tI, z_tB, pk_mul, nI_add, cI_cl, cI_ix, nar_0, nar_1, nar_b, Nat.reduceAdd, Nat.reduceLT, Nat.reduceMul, e, if_false, h1 _ hx, ce_lt h6, sS_one h6, sS_or]
      rw [← n_cb1 h1 h2 hc ht hb hn k (i + 1) _ (by omega)]
      rw [sS_congr (q := fun s => anyB (fun n => df c t (fi + n * st) && decide (c (fi + n * st) = s)) (i + 1))]
      intro s hs
      rw [anyB_s, hd, Bool.true_and]
      congr 1
      exact decide_eq_decide.mpr ⟨Eq.symm, Eq.symm⟩
theorem n_cb {hh : z_H} {x y : Nat} {c t : Nat → Nat} (h1 : ∀ k, k < 25 → ∀ K, z_aL hh.1 x z_tI (nI k) K = K (ce (c k))) (h2 : ∀ k, k < 25 → ∀ K, z_aL hh.1 y z_tI (nI k) K = K (ce (t k))) (hc : ∀ k, c k ≤ 5) (ht : ∀ k, t k ≤ 5) {fi st : Nat} (hb : fi + 4 * st < 25) (hn : ∀ k, k < 25 → bd c t k = false) : z_Ca g d 62 [.ref x, .ref y, .int (nI fi), .int (nI st)] hh P = P (.inr (some (.int (sS (cb c t fi st)))), hh) := by
  have := fun v => n_cb1 (g := g) (d := d) (P := P) h1 h2 hc ht hb hn 5 0 v (by omega)
  simp only [anyB_z, ← sS_0] at this
  rw [zn_62]
  simp (disch := omega) only [ze_62_0, ze_62_1, ze_62_3, ze_62_4, ze_62_8, ze_62_9, ze_62_12, ze_62_13, ze_62_15, ze_62_16, ze_62_17, ze_62_18, ze_62_20, ze_62_21, ze_62_23, ze_62_24, ze_62_25, ze_62_27, ze_62_28, ze_62_31, ze_62_33, ze_62_34, ze_62_35, ze_62_37, ze_62_38, ze_62_39, ze_62_40, ze_62_42, ze_62_45, ze_62_48, ze_62_50, z_k_r, z_push_s, z_push_n, okS_0, okS_I, okS_R, okS_A, List.getElem?_cons_zero, List.getElem?_cons_succ, List.length_cons, List.length_nil, List.set_cons_zero, List.set_cons_succ, true_and, and_true, z_tI, z_tB, pk_mul, nI_add, cI_cl, cI_ix, nar_0, nar_1, nar_b, Nat.reduceAdd, Nat.reduceLT, Nat.reduceMul]
  exact this _
theorem bd_comm (c t : Nat → Nat) (k : Nat) : bd t c k = bd c t k := by
  unfold bd
  rw [df_comm, Bool.or_comm]
theorem n_tr2 {s : Nat} {t : Nat → Nat} (hs : s < 2) (hA : ∀ k, k < 25 → A (43 + s) k = ce (t k)) (hc : ∀ k, (G 1).c k ≤ 5) (ht : ∀ k, t k ≤ 5) (hd : 0 < d) (hn : ∀ k, k < 25 → bd (G 1).c t k = false) : ∀ (k l : Nat), l + k = 5 → (∀ i, i < l → lnE (G 1).c t i = true) → z_T g d 61 72 [.ref (B + 41), .int (nI s), .ref (B + 1), .ref (B + 43 + s), .int (nI l)] [] (xw f B G I A, q) P = P (.inr (some (.int (zb (!anyB (fun l => !lnE (G 1).c t l) 5)))), (xw f B G I A, q))
  | 0, l, h, hl => by
    have : l = 5 := by omega
    subst this
    rw [ze_61_72]
    simp (disch := omega) only [ze_61_0, ze_61_1, ze_61_2, ze_61_3, ze_61_6, ze_61_9, ze_61_10, ze_61_11, ze_61_12, ze_61_15, ze_61_16, ze_61_17, ze_61_18, ze_61_19, ze_61_21, ze_61_23, ze_61_25, ze_61_28, ze_61_29, ze_61_32, ze_61_34, ze_61_35, ze_61_36, ze_61_38, ze_61_39, ze_61_42, ze_61_43, ze_61_46, ze_61_48, ze_61_49, ze_61_50, ze_61_53, ze_61_54, ze_61_56, ze_61_57, ze_61_58, ze_61_61, ze_61_62, ze_61_63, ze_61_66, ze_61_69, ze_61_70, ze_61_74, ze_61_75, ze_61_78, ze_61_79, ze_61_82, ze_61_83, ze_61_85, ze_61_86, ze_61_87, ze_61_88, ze_61_91, ze_61_92, ze_61_93, ze_61_96, ze_61_98, ze_61_99, ze_61_100, ze_61_101, ze_61_104, ze_61_107, ze_61_108, ze_61_111, ze_61_112, ze_61_114, ze_61_115, ze_61_118, ze_61_119, ze_61_120, ze_61_123, ze_61_125, ze_61_126, ze_61_129, ze_61_132, ze_61_133, ze_61_134, ze_61_137, ze_61_140, ze_61_141, z_k_r, z_push_s, z_push_n, okS_0, okS_I, okS_R, okS_A, List.getElem?_cons_zero, List.getElem?_cons_succ, List.length_cons, List.length_nil, List.set_cons_zero, List.set_cons_succ, true_and, and_true, z_tI, z_tB, pk_mul, nI_add, cI_cl, cI_ix, nar_0, nar_1, nar_b, Nat.reduceAdd, Nat.reduceLT, Nat.reduceMul, ↓xr_0_0, ↓xr_0_1, ↓xr_0_2, ↓xr_0_3, ↓xr_0_4, ↓xr_0_5, ↓xr_0_6, ↓xr_0_7, ↓xr_0_8, ↓xr_0_9, ↓xg_14, xp_14, xo_0, ↓xr_7_0, ↓xg_0, xp_0, ↓xg_1, xp_1, ↓xg_2, xp_2, ↓xg_3, xp_3, ↓xg_4, xp_4, ↓xg_5, xp_5, xo_7, ↓xr_9_0, ↓xr_9_1, ↓xg_6, xp_6, ↓xg_7, xp_7, xo_9, ↓xr_16_0, xo_16, ↓xr_17_0, ↓xr_17_1, ↓xr_17_2, ↓xg_8, xp_8, xo_17, ↓xr_25_0, ↓xr_25_1, ↓xg_9, xp_9, ↓xg_10, xp_10, xo_25, ↓xr_27_0, ↓xr_27_1, ↓xg_11, xp_11, xo_27, ↓xr_29_0, ↓xg_12, xp_12, ↓xg_13, xp_13, xo_29, ↓xr_41_0, ↓xr_41_1, xo_41, xL_8, xS_8, xL_24, xS_24, xL_26, xS_26, xL_28, xS_28, xL_31, xS_31, xL_32, xS_32, xL_33, xS_33, xL_34, xS_34, xL_35, xS_35, xL_36, xS_36, xL_37, xS_37, xL_38, xS_38, xL_39, xS_39, xL_40, xS_40, xL_43, xS_43, xL_44, xS_44, xL_45, xS_45, xL_46, xS_46, xq_30, xq_42, ↓xr_1_0, ↓xr_1_1, ↓xr_1_2, ↓xr_1_3, ↓xr_1_4, ↓xh_1_0, ↓xh_1_1, ↓xh_1_2, ↓xh_1_3, ↓xh_1_4, xo_1, xL_2, xL_3, xL_4, xL_5, xL_6, ↓xr_10_0, ↓xr_10_1, ↓xr_10_2, ↓xr_10_3, ↓xr_10_4, ↓xh_10_0, ↓xh_10_1, ↓xh_10_2, ↓xh_10_3, ↓xh_10_4, xo_10, xL_11, xL_12, xL_13, xL_14, xL_15, ↓xr_18_0, ↓xr_18_1, ↓xr_18_2, ↓xr_18_3, ↓xr_18_4, ↓xh_18_0, ↓xh_18_1, ↓xh_18_2, ↓xh_18_3, ↓xh_18_4, xo_18, xL_19, xL_20, xL_21, xL_22, xL_23, uA_s, uA_n, uG_s, uG_n, ne_eq, Nat.reduceEqDiff, not_false_eq_true, cI_lt, cI_eq, ↓reduceIte, if_true, if_false, Nat.lt_irrefl, eq_self, Nat.reduceEqDiff, or_true, true_or, or_false, false_or, not_false_eq_true, not_true_eq_false, ce_5, zb_t, zb_f]
    rw [any_f.mpr (fun k hk => by rw [hl k hk]; rfl)]
    rfl
  | k + 1, l, h, hl => by
    have hl5 : l < 5 := by omega
    have a1 : ∀ k, k < 25 → ∀ K, z_aL (xw f B G I A) (B + 2) z_tI (nI k) K = K (ce ((G 1).c k)) := fun k hk K => xL_2 f B G I A hk K
    have a2 : ∀ k, k < 25 → ∀ K, z_aL (xw f B G I A) (B + 43 + s) z_tI (nI k) K = K (ce (t k)) := fun k hk K => by rw [xL_s hs hk, hA k hk]
    have n1 := fun P => n_cb (g := g) (d := d - 1) (P := P) (hh := (xw f B G I A, q)) a1 a2 hc ht (fi := l * 5) (st := 1) (by omega) hn
    have n2 := fun P => n_cb (g := g) (d := d - 1) (P := P) (hh := (xw f B G I A, q)) a2 a1 ht hc (fi := l * 5) (st := 1) (by omega) (fun k hk => by rw [bd_comm]; exact hn k hk)
    have n3 := fun P => n_cb (g := g) (d := d - 1) (P := P) (hh := (xw f B G I A, q)) a1 a2 hc ht (fi := l) (st := 5) (by omega) hn
    have n4 := fun P => n_cb (g := g) (d := d - 1) (P := P) (hh := (xw f B G I A, q)) a2 a1 ht hc (fi := l) (st := 5) (by omega) (fun k hk => by rw [bd_comm]; exact hn k hk)
    have no : lnE (G 1).c t l = false → (!anyB (fun l => !lnE (G 1).c t l) 5) = false := fun e => by
      rw [any_t (k := l) hl5 (by rw [e]; rfl)]
      rfl
    rw [ze_61_72]
    simp (disch := omega) only [ze_61_0, ze_61_1, ze_61_2, ze_61_3, ze_61_6, ze_61_9, ze_61_10, ze_61_11, ze_61_12, ze_61_15, ze_61_16, ze_61_17, ze_61_18, ze_61_19, ze_61_21, ze_61_23, ze_61_25, ze_61_28, ze_61_29, ze_61_32, ze_61_34, ze_61_35, ze_61_36, ze_61_38, ze_61_39, ze_61_42, ze_61_43, ze_61_46, ze_61_48, ze_61_49, ze_61_50, ze_61_53, ze_61_54, ze_61_56, ze_61_57, ze_61_58, ze_61_61, ze_61_62, ze_61_63, ze_61_66, ze_61_69, ze_61_70, ze_61_74, ze_61_75, ze_61_78, ze_61_79, ze_61_82, ze_61_83, ze_61_85, ze_61_86, ze_61_87, ze_61_88, ze_61_91, ze_61_92, ze_61_93, ze_61_96, ze_61_98, ze_61_99, ze_61_100, ze_61_101, ze_61_104, ze_61_107, ze_61_108, ze_61_111, ze_61_112, ze_61_114, ze_61_115, ze_61_118, ze_61_119, ze_61_120, ze_61_123, ze_61_125, ze_61_126, ze_61_129, ze_61_132, ze_61_133, ze_61_134, ze_61_137, ze_61_140, ze_61_141, z_k_r, z_push_s, z_push_n, okS_0, okS_I, okS_R, okS_A, List.getElem?_cons_zero, List.getElem?_cons_succ, List.length_cons, List.length_nil, List.set_cons_zero, List.set_cons_succ, true_and, and_true, z_tI, z_tB, pk_mul, nI_add, cI_cl, cI_ix, nar_0, nar_1, nar_b, Nat.reduceAdd, Nat.reduceLT, Nat.reduceMul, ↓xr_0_0, ↓xr_0_1, ↓xr_0_2, ↓xr_0_3, ↓xr_0_4, ↓xr_0_5, ↓xr_0_6, ↓xr_0_7, ↓xr_0_8, ↓xr_0_9, ↓xg_14, xp_14, xo_0, ↓xr_7_0, ↓xg_0, xp_0, ↓xg_1, xp_1, ↓xg_2, xp_2, ↓xg_3, xp_3, ↓xg_4, xp_4, ↓xg_5, xp_5, xo_7, ↓xr_9_0, ↓xr_9_1, ↓xg_6, xp_6, ↓xg_7, xp_7, xo_9, ↓xr_16_0, xo_16, ↓xr_17_0, ↓xr_17_1, ↓xr_17_2, ↓xg_8, xp_8, xo_17, ↓xr_25_0, ↓xr_25_1, ↓xg_9, xp_9, ↓xg_10, xp_10, xo_25, ↓xr_27_0, ↓xr_27_1, ↓xg_11, xp_11, xo_27, ↓xr_29_0, ↓xg_12, xp_12, ↓xg_13, xp_13, xo_29, ↓xr_41_0, ↓xr_41_1, xo_41, xL_8, xS_8, xL_24, xS_24, xL_26, xS_26, xL_28, xS_28, xL_31, xS_31, xL_32, xS_32, xL_33, xS_33, xL_34, xS_34, xL_35, xS_35, xL_36, xS_36, xL_37, xS_37, xL_38, xS_38, xL_39, xS_39, xL_40, xS_40, xL_43, xS_43, xL_44, xS_44, xL_45, xS_45, xL_46, xS_46, xq_30, xq_42, ↓xr_1_0, ↓xr_1_1, ↓xr_1_2, ↓xr_1_3, ↓xr_1_4, ↓xh_1_0, ↓xh_1_1, ↓xh_1_2, ↓xh_1_3, ↓xh_1_4, xo_1, xL_2, xL_3, xL_4, xL_5, xL_6, ↓xr_10_0, ↓xr_10_1, ↓xr_10_2, ↓xr_10_3, ↓xr_10_4, ↓xh_10_0, ↓xh_10_1, ↓xh_10_2, ↓xh_10_3, ↓xh_10_4, xo_10, xL_11, xL_12, xL_13, xL_14, xL_15, ↓xr_18_0, ↓xr_18_1, ↓xr_18_2, ↓xr_18_3, ↓xr_18_4, ↓xh_18_0, ↓xh_18_1, ↓xh_18_2, ↓xh_18_3, ↓xh_18_4, xo_18, xL_19, xL_20, xL_21, xL_22, xL_23, uA_s, uA_n, uG_s, uG_n, ne_eq, Nat.reduceEqDiff, not_false_eq_true, cI_lt, cI_eq, ↓reduceIte, if_true, if_false, Nat.lt_irrefl, eq_self, Nat.reduceEqDiff, or_true, true_or, or_false, false_or, not_false_eq_true, not_true_eq_false, ce_5, zb_t, zb_f, hl5, hd, n1, n2, n3, n4]
    by_cases e1 : sS (cb (G 1).c t (l * 5) 1) = sS (cb t (G 1).c (l * 5) 1)
    · by_cases e2 : sS (cb (G 1).c t l 5) = sS (cb t (G 1).c l 5)
      · simp only [e1, e2, if_true]
        rw [n_tr2 hs hA hc ht hd hn k (l + 1) (by omega)]
        intro i hi
        by_cases e : i = l
        · rw [e]
          unfold lnE
          rw [decide_eq_true e1, decide_eq_true e2]
          rfl
        · exact hl i (by omega)
      · simp only [e1, e2, if_true, if_false]
        rw [no (by unfold lnE; rw [decide_eq_false e2, Bool.and_false])]
        rfl
    · simp only [e1, if_false]
      rw [no (by unfold lnE; rw [decide_eq_false e1, Bool.false_and])]
      rfl
theorem n_tr1 {s : Nat} {t : Nat → Nat} (hs : s < 2) (hA : ∀ k, k < 25 → A (43 + s) k = ce (t k)) (hc : ∀ k, (G 1).c k ≤ 5) (ht : ∀ k, t k ≤ 5) (hd : 0 < d) : ∀ (k i : Nat), i + k = 25 → (∀ j, j < i → bd (G 1).c t j = false) → z_T g d 61 21 [.ref (B + 41), .int (nI s), .ref (B + 1), .ref (B + 43 + s), .int (nI i)] [] (xw f B G I A, q) P = P (.inr (some (.int (zb (!anyB (bd (G 1).c t) 25 && !anyB (fun l => !lnE (G 1).c t l) 5)))), (xw f B G I A, q))
  | 0, i, h, hb => by
    have : i = 25 := by omega
    subst this
    rw [ze_61_21]
    simp (disch := omega) only [ze_61_0, ze_61_1, ze_61_2, ze_61_3, ze_61_6, ze_61_9, ze_61_10, ze_61_11, ze_61_12, ze_61_15, ze_61_16, ze_61_17, ze_61_18, ze_61_19, ze_61_23, ze_61_25, ze_61_28, ze_61_29, ze_61_32, ze_61_34, ze_61_35, ze_61_36, ze_61_38, ze_61_39, ze_61_42, ze_61_43, ze_61_46, ze_61_48, ze_61_49, ze_61_50, ze_61_53, ze_61_54, ze_61_56, ze_61_57, ze_61_58, ze_61_61, ze_61_62, ze_61_63, ze_61_66, ze_61_69, ze_61_70, ze_61_74, ze_61_75, ze_61_78, ze_61_79, ze_61_82, ze_61_83, ze_61_85, ze_61_86, ze_61_87, ze_61_88, ze_61_91, ze_61_92, ze_61_93, ze_61_96, ze_61_98, ze_61_99, ze_61_100, ze_61_101, ze_61_104, ze_61_107, ze_61_108, ze_61_111, ze_61_112, ze_61_114, ze_61_115, ze_61_118, ze_61_119, ze_61_120, ze_61_123, ze_61_125, ze_61_126, ze_61_129, ze_61_132, ze_61_133, ze_61_134, ze_61_137, ze_61_140, ze_61_141, z_k_r, z_push_s, z_push_n, okS_0, okS_I, okS_R, okS_A, List.getElem?_cons_zero, List.getElem?_cons_succ, List.length_cons, List.length_nil, List.set_cons_zero, List.set_cons_succ, true_and, and_true, z_tI, z_tB, pk_mul, nI_add, cI_cl, cI_ix, nar_0, nar_1, nar_b, Nat.reduceAdd, Nat.reduceLT, Nat.reduceMul, ↓xr_0_0, ↓xr_0_1, ↓xr_0_2, ↓xr_0_3, ↓xr_0_4, ↓xr_0_5, ↓xr_0_6, ↓xr_0_7, ↓xr_0_8, ↓xr_0_9, ↓xg_14, xp_14, xo_0, ↓xr_7_0, ↓xg_0, xp_0, ↓xg_1, xp_1, ↓xg_2, xp_2, ↓xg_3, xp_3, ↓xg_4, xp_4, ↓xg_5, xp_5, xo_7, ↓xr_9_0, ↓xr_9_1, ↓xg_6, xp_6, ↓xg_7, xp_7, xo_9, ↓xr_16_0, xo_16, ↓xr_17_0, ↓xr_17_1, ↓xr_17_2, ↓xg_8, xp_8, xo_17, ↓xr_25_0, ↓xr_25_1, ↓xg_9, xp_9, ↓xg_10, xp_10, xo_25, ↓xr_27_0, ↓xr_27_1, ↓xg_11, xp_11, xo_27, ↓xr_29_0, ↓xg_12, xp_12, ↓xg_13, xp_13, xo_29, ↓xr_41_0, ↓xr_41_1, xo_41, xL_8, xS_8, xL_24, xS_24, xL_26, xS_26, xL_28, xS_28, xL_31, xS_31, xL_32, xS_32, xL_33, xS_33, xL_34, xS_34, xL_35, xS_35, xL_36, xS_36, xL_37, xS_37, xL_38, xS_38, xL_39, xS_39, xL_40, xS_40, xL_43, xS_43, xL_44, xS_44, xL_45, xS_45, xL_46, xS_46, xq_30, xq_42, ↓xr_1_0, ↓xr_1_1, ↓xr_1_2, ↓xr_1_3, ↓xr_1_4, ↓xh_1_0, ↓xh_1_1, ↓xh_1_2, ↓xh_1_3, ↓xh_1_4, xo_1, xL_2, xL_3, xL_4, xL_5, xL_6, ↓xr_10_0, ↓xr_10_1, ↓xr_10_2, ↓xr_10_3, ↓xr_10_4, ↓xh_10_0, ↓xh_10_1, ↓xh_10_2, ↓xh_10_3, ↓xh_10_4, xo_10, xL_11, xL_12, xL_13, xL_14, xL_15, ↓xr_18_0, ↓xr_18_1, ↓xr_18_2, ↓xr_18_3, ↓xr_18_4, ↓xh_18_0, ↓xh_18_1, ↓xh_18_2, ↓xh_18_3, ↓xh_18_4, xo_18, xL_19, xL_20, xL_21, xL_22, xL_23, uA_s, uA_n, uG_s, uG_n, ne_eq, Nat.reduceEqDiff, not_false_eq_true, cI_lt, cI_eq, ↓reduceIte, if_true, if_false, Nat.lt_irrefl, eq_self, Nat.reduceEqDiff, or_true, true_or, or_false, false_or, not_false_eq_true, not_true_eq_false, ce_5, zb_t, zb_f]
    rw [n_tr2 hs hA hc ht hd hb 5 0 (by omega) (fun i hi => by omega), any_f.mpr hb]
    rfl
  | k + 1, i, h, hb => by
    have hi : i < 25 := by omega
    have e1 := ce_inj (hc i) (ht i)
    have e2 := ce_em (hc i)
    have e3 := ce_em (ht i)
    have go : bd (G 1).c t i = false → z_T g d 61 21 [.ref (B + 41), .int (nI s), .ref (B + 1), .ref (B + 43 + s), .int (nI (i + 1))] [] (xw f B G I A, q) P = _ := fun e => n_tr1 hs hA hc ht hd k (i + 1) (by omega) (fun j hj => by
      by_cases e4 : j = i
      · rw [e4]; exact e
      · exact hb j (by omega))
    have no : bd (G 1).c t i = true → (!anyB (bd (G 1).c t) 25 && !anyB (fun l => !lnE (G 1).c t l) 5) = false := fun e => by
      rw [any_t hi e]
      rfl
    rw [ze_61_21]
    simp (disch := omega) only [ze_61_0, ze_61_1, ze_61_2, ze_61_3, ze_61_6, ze_61_9, ze_61_10, ze_61_11, ze_61_12, ze_61_15, ze_61_16, ze_61_17, ze_61_18, ze_61_19, ze_61_23, ze_61_25, ze_61_28, ze_61_29, ze_61_32, ze_61_34, ze_61_35, ze_61_36, ze_61_38, ze_61_39, ze_61_42, ze_61_43, ze_61_46, ze_61_48, ze_61_49, ze_61_50, ze_61_53, ze_61_54, ze_61_56, ze_61_57, ze_61_58, ze_61_61, ze_61_62, ze_61_63, ze_61_66, ze_61_69, ze_61_70, ze_61_74, ze_61_75, ze_61_78, ze_61_79, ze_61_82, ze_61_83, ze_61_85, ze_61_86, ze_61_87, ze_61_88, ze_61_91, ze_61_92, ze_61_93, ze_61_96, ze_61_98, ze_61_99, ze_61_100, ze_61_101, ze_61_104, ze_61_107, ze_61_108, ze_61_111, ze_61_112, ze_61_114, ze_61_115, ze_61_118, ze_61_119, ze_61_120, ze_61_123, ze_61_125, ze_61_126, ze_61_129, ze_61_132, ze_61_133, ze_61_134, ze_61_137, ze_61_140, ze_61_141, z_k_r, z_push_s, z_push_n, okS_0, okS_I, okS_R, okS_A, List.getElem?_cons_zero, List.getElem?_cons_succ, List.length_cons, List.length_nil, List.set_cons_zero, List.set_cons_succ, true_and, and_true, z_tI, z_tB, pk_mul, nI_add, cI_cl, cI_ix, nar_0, nar_1, nar_b, Nat.reduceAdd, Nat.reduceLT, Nat.reduceMul, ↓xr_0_0, ↓xr_0_1, ↓xr_0_2, ↓xr_0_3, ↓xr_0_4, ↓xr_0_5, ↓xr_0_6, ↓xr_0_7, ↓xr_0_8, ↓xr_0_9, ↓xg_14, xp_14, xo_0, ↓xr_7_0, ↓xg_0, xp_0, ↓xg_1, xp_1, ↓xg_2, xp_2, ↓xg_3, xp_3, ↓xg_4, xp_4, ↓xg_5, xp_5, xo_7, ↓xr_9_0, ↓xr_9_1, ↓xg_6, xp_6, ↓xg_7, xp_7, xo_9, ↓xr_16_0, xo_16, ↓xr_17_0, ↓xr_17_1, ↓xr_17_2, ↓xg_8, xp_8, xo_17, ↓xr_25_0, ↓xr_25_1, ↓xg_9, xp_9, ↓xg_10, xp_10, xo_25, ↓xr_27_0, ↓xr_27_1, ↓xg_11, xp_11, xo_27, ↓xr_29_0, ↓xg_12, xp_12, ↓xg_13, xp_13, xo_29, ↓xr_41_0, ↓xr_41_1, xo_41, xL_8, xS_8, xL_24, xS_24, xL_26, xS_26, xL_28, xS_28, xL_31, xS_31, xL_32, xS_32, xL_33, xS_33, xL_34, xS_34, xL_35, xS_35, xL_36, xS_36, xL_37, xS_37, xL_38, xS_38, xL_39, xS_39, xL_40, xS_40, xL_43, xS_43, xL_44, xS_44, xL_45, xS_45, xL_46, xS_46, xq_30, xq_42, ↓xr_1_0, ↓xr_1_1, ↓xr_1_2, ↓xr_1_3, ↓xr_1_4, ↓xh_1_0, ↓xh_1_1, ↓xh_1_2, ↓xh_1_3, ↓xh_1_4, xo_1, xL_2, xL_3, xL_4, xL_5, xL_6, ↓xr_10_0, ↓xr_10_1, ↓xr_10_2, ↓xr_10_3, ↓xr_10_4, ↓xh_10_0, ↓xh_10_1, ↓xh_10_2, ↓xh_10_3, ↓xh_10_4, xo_10, xL_11, xL_12, xL_13, xL_14, xL_15, ↓xr_18_0, ↓xr_18_1, ↓xr_18_2, ↓xr_18_3, ↓xr_18_4, ↓xh_18_0, ↓xh_18_1, ↓xh_18_2, ↓xh_18_3, ↓xh_18_4, xo_18, xL_19, xL_20, xL_21, xL_22, xL_23, uA_s, uA_n, uG_s, uG_n, ne_eq, Nat.reduceEqDiff, not_false_eq_true, cI_lt, cI_eq, ↓reduceIte, if_true, if_false, Nat.lt_irrefl, eq_self, Nat.reduceEqDiff, or_true, true_or, or_false, false_or, not_false_eq_true, not_true_eq_false, ce_5, zb_t, zb_f, hi, hs, xL_s hs, hA i hi, e1, e2, e3]
    by_cases q1 : (G 1).c i = t i
    · simp only [q1, if_true]
      exact go (by unfold bd df; rw [decide_eq_true q1]; rfl)
    · by_cases q2 : (G 1).c i = 5
      · simp only [q1, q2, if_true, if_false]
        have : ¬ 5 = t i := fun z => q1 (by rw [q2, z])
        simp only [this, if_false]
        rw [no (by unfold bd df; rw [decide_eq_false q1, decide_eq_true q2]; rfl)]
        rfl
      · by_cases q3 : t i = 5
        · rw [q3] at q1
          simp only [q1, q2, q3, if_true, if_false]
          rw [no (by unfold bd df; rw [q3, decide_eq_false q1]; simp)]
          rfl
        · simp only [q1, q2, q3, if_true, if_false]
          exact go (by unfold bd df; rw [decide_eq_false q1, decide_eq_false q2, decide_eq_false q3]; rfl)
theorem n_tr {s : Nat} {t : Nat → Nat} (hs : s < 2) (hA : ∀ k, k < 25 → A (43 + s) k = ce (t k)) (hc : ∀ k, (G 1).c k ≤ 5) (ht : ∀ k, t k ≤ 5) (hd : 0 < d) : z_Ca g d 61 [.ref (B + 41), .int (nI s), .ref (B + 1)] (xw f B G I A, q) P = P (.inr (some (.int (zb (tr (G 1).c t)))), (xw f B G I A, q)) := by
  have hl := ct_le (df (G 1).c t) 25 0
  rw [zn_61]
  simp (disch := omega) only [ze_61_0, ze_61_1, ze_61_2, ze_61_3, ze_61_6, ze_61_9, ze_61_10, ze_61_11, ze_61_12, ze_61_15, ze_61_16, ze_61_17, ze_61_18, ze_61_19, ze_61_23, ze_61_25, ze_61_28, ze_61_29, ze_61_32, ze_61_34, ze_61_35, ze_61_36, ze_61_38, ze_61_39, ze_61_42, ze_61_43, ze_61_46, ze_61_48, ze_61_49, ze_61_50, ze_61_53, ze_61_54, ze_61_56, ze_61_57, ze_61_58, ze_61_61, ze_61_62, ze_61_63, ze_61_66, ze_61_69, ze_61_70, ze_61_72, ze_61_74, ze_61_75, ze_61_78, ze_61_79, ze_61_82, ze_61_83, ze_61_85, ze_61_86, ze_61_87, ze_61_88, ze_61_91, ze_61_92, ze_61_93, ze_61_96, ze_61_98, ze_61_99, ze_61_100, ze_61_101, ze_61_104, ze_61_107, ze_61_108, ze_61_111, ze_61_112, ze_61_114, ze_61_115, ze_61_118, ze_61_119, ze_61_120, ze_61_123, ze_61_125, ze_61_126, ze_61_129, ze_61_132, ze_61_133, ze_61_134, ze_61_137, ze_61_140, ze_61_141, z_k_r, z_push_s, z_push_n, okS_0, okS_I, okS_R, okS_A, List.getElem?_cons_zero, List.getElem?_cons_succ, List.length_cons, List.length_nil, List.set_cons_zero, List.set_cons_succ, true_and, and_true, z_tI, z_tB, pk_mul, nI_add, cI_cl, cI_ix, nar_0, nar_1, nar_b, Nat.reduceAdd, Nat.reduceLT, Nat.reduceMul, ↓xr_0_0, ↓xr_0_1, ↓xr_0_2, ↓xr_0_3, ↓xr_0_4, ↓xr_0_5, ↓xr_0_6, ↓xr_0_7, ↓xr_0_8, ↓xr_0_9, ↓xg_14, xp_14, xo_0, ↓xr_7_0, ↓xg_0, xp_0, ↓xg_1, xp_1, ↓xg_2, xp_2, ↓xg_3, xp_3, ↓xg_4, xp_4, ↓xg_5, xp_5, xo_7, ↓xr_9_0, ↓xr_9_1, ↓xg_6, xp_6, ↓xg_7, xp_7, xo_9, ↓xr_16_0, xo_16, ↓xr_17_0, ↓xr_17_1, ↓xr_17_2, ↓xg_8, xp_8, xo_17, ↓xr_25_0, ↓xr_25_1, ↓xg_9, xp_9, ↓xg_10, xp_10, xo_25, ↓xr_27_0, ↓xr_27_1, ↓xg_11, xp_11, xo_27, ↓xr_29_0, ↓xg_12, xp_12, ↓xg_13, xp_13, xo_29, ↓xr_41_0, ↓xr_41_1, xo_41, xL_8, xS_8, xL_24, xS_24, xL_26, xS_26, xL_28, xS_28, xL_31, xS_31, xL_32, xS_32, xL_33, xS_33, xL_34, xS_34, xL_35, xS_35, xL_36, xS_36, xL_37, xS_37, xL_38, xS_38, xL_39, xS_39, xL_40, xS_40, xL_43, xS_43, xL_44, xS_44, xL_45, xS_45, xL_46, xS_46, xq_30, xq_42, ↓xr_1_0, ↓xr_1_1, ↓xr_1_2, ↓xr_1_3, ↓xr_1_4, ↓xh_1_0, ↓xh_1_1, ↓xh_1_2, ↓xh_1_3, ↓xh_1_4, xo_1, xL_2, xL_3, xL_4, xL_5, xL_6, ↓xr_10_0, ↓xr_10_1, ↓xr_10_2, ↓xr_10_3, ↓xr_10_4, ↓xh_10_0, ↓xh_10_1, ↓xh_10_2, ↓xh_10_3, ↓xh_10_4, xo_10, xL_11, xL_12, xL_13, xL_14, xL_15, ↓xr_18_0, ↓xr_18_1, ↓xr_18_2, ↓xr_18_3, ↓xr_18_4, ↓xh_18_0, ↓xh_18_1, ↓xh_18_2, ↓xh_18_3, ↓xh_18_4, xo_18, xL_19, xL_20, xL_21, xL_22, xL_23, uA_s, uA_n, uG_s, uG_n, ne_eq, Nat.reduceEqDiff, not_false_eq_true, cI_lt, cI_eq, ↓reduceIte, if_true, if_false, Nat.lt_irrefl, eq_self, Nat.reduceEqDiff, or_true, true_or, or_false, false_or, not_false_eq_true, not_true_eq_false, ce_5, zb_t, zb_f, n_chg hs hA hc ht, hd, hs]
  unfold tr
  by_cases e : ct (df (G 1).c t) 0 25 = 0
  · simp only [e, if_true, decide_true, Bool.not_true, Bool.false_and, zb_f]
  · simp only [e, if_false, decide_false, Bool.not_false, Bool.true_and]
    exact n_tr1 hs hA hc ht hd 25 0 (by omega) (fun j hj => by omega)
end
-- the reference
section
variable {g : z_G} {d : Nat} {f : Nat → Option z_C} {q : Option Nat × Nat × Nat} {P : z_Res → Prop} {m : Nat} {I : Nat → Int32} {A : Nat → Nat → Int32} {S : GS}
theorem m_dif1 (hM : MH I A S) {s : Nat} {t : Nat → Nat} (hs : s < 2) (hA : ∀ k, k < 25 → A 9 (25 * s + k) = ce (t k)) (hc : ∀ k, S.c k ≤ 5) (ht : ∀ k, t k ≤ 5) : ∀ (k i n : Nat), i + k = 25 → z_T g d 185 4 [.ref m, .int (nI s), .int (nI n), .int (nI i)] [] (mw f m I A, q) P = P (.inr (some (.int (nI (n + ct (df S.c t) i k)))), (mw f m I A, q))
  | 0, i, n, h => by
    have : i = 25 := by omega
    subst this
    rw [ze_185_4]
    simp (disch := omega) only [ze_185_0, ze_185_1, ze_185_2, ze_185_3, ze_185_5, ze_185_7, ze_185_10, ze_185_11, ze_185_12, ze_185_15, ze_185_16, ze_185_17, ze_185_18, ze_185_21, ze_185_23, ze_185_24, ze_185_25, ze_185_26, ze_185_27, ze_185_28, ze_185_31, ze_185_32, ze_185_35, ze_185_36, ze_185_37, ze_185_38, ze_185_41, ze_185_44, ze_185_45, z_k_r, z_push_s, z_push_n, okS_0, okS_I, okS_R, okS_A, List.getElem?_cons_zero, List.getElem?_cons_succ, List.length_cons, List.length_nil, List.set_cons_zero, List.set_cons_succ, true_and, and_true, z_tI, z_tB, pk_mul, nI_add, cI_cl, cI_ix, nar_0, nar_1, nar_b, Nat.reduceAdd, Nat.reduceLT, Nat.reduceMul, ↓mg_0, ↓mg_1, ↓mg_2, ↓mg_3, ↓mg_4, ↓mg_5, ↓mg_6, ↓mg_7, ↓mg_8, ↓mg_9, ↓mg_10, ↓mg_11, ↓mg_12, ↓mg_13, ↓mg_14, ↓mg_15, ↓mg_16, ↓mg_17, ↓mg_18, ↓mg_19, ↓mg_20, ↓mg_21, ↓mg_22, ↓mg_23, ↓mg_24, ↓mg_25, ↓mg_26, ↓mg_27, ↓mg_28, mp_0, mp_1, mp_2, mp_3, mp_4, mp_5, mp_6, mp_13, mp_14, mp_15, mp_16, mp_17, mp_18, mp_19, mp_20, mp_21, mp_23, mL_1, mL_2, mL_3, mL_4, mL_5, mL_6, mL_7, mL_8, mL_9, mL_10, mL_11, mL_12, mS_1, mS_2, mS_3, mS_4, mS_5, mS_6, mS_7, mS_8, mS_9, mS_10, mS_11, mS_12, m_gO, uA_s, uA_n, cI_lt, cI_eq, ↓reduceIte, if_true, if_false, Nat.lt_irrefl, eq_self, Nat.reduceEqDiff, or_true, true_or, or_false, false_or, not_false_eq_true, not_true_eq_false, ce_5, zb_t, zb_f, ct_z, Nat.add_zero]
  | k + 1, i, n, h => by
    have hi : i < 25 := by omega
    have h5 := hM.2.2.1
    have e1 := ce_inj (hc i) (ht i)
    have hx : 25 * s + i < 50 := by omega
    rw [ze_185_4, ct_s]
    simp (disch := omega) only [ze_185_0, ze_185_1, ze_185_2, ze_185_3, ze_185_5, ze_185_7, ze_185_10, ze_185_11, ze_185_12, ze_185_15, ze_185_16, ze_185_17, ze_185_18, ze_185_21, ze_185_23, ze_185_24, ze_185_25, ze_185_26, ze_185_27, ze_185_28, ze_185_31, ze_185_32, ze_185_35, ze_185_36, ze_185_37, ze_185_38, ze_185_41, ze_185_44, ze_185_45, z_k_r, z_push_s, z_push_n, okS_0, okS_I, okS_R, okS_A, List.getElem?_cons_zero, List.getElem?_cons_succ, List.length_cons, List.length_nil, List.set_cons_zero, List.set_cons_succ, true_and, and_true, z_tI, z_tB, pk_mul, nI_add, cI_cl, cI_ix, nar_0, nar_1, nar_b, Nat.reduceAdd, Nat.reduceLT, Nat.reduceMul, ↓mg_0, ↓mg_1, ↓mg_2, ↓mg_3, ↓mg_4, ↓mg_5, ↓mg_6, ↓mg_7, ↓mg_8, ↓mg_9, ↓mg_10, ↓mg_11, ↓mg_12, ↓mg_13, ↓mg_14, ↓mg_15, ↓mg_16, ↓mg_17, ↓mg_18, ↓mg_19, ↓mg_20, ↓mg_21, ↓mg_22, ↓mg_23, ↓mg_24, ↓mg_25, ↓mg_26, ↓mg_27, ↓mg_28, mp_0, mp_1, mp_2, mp_3, mp_4, mp_5, mp_6, mp_13, mp_14, mp_15, mp_16, mp_17, mp_18, mp_19, mp_20, mp_21, mp_23, mL_1, mL_2, mL_3, mL_4, mL_5, mL_6, mL_7, mL_8, mL_9, mL_10, mL_11, mL_12, mS_1, mS_2, mS_3, mS_4, mS_5, mS_6, mS_7, mS_8, mS_9, mS_10, mS_11, mS_12, m_gO, uA_s, uA_n, cI_lt, cI_eq, ↓reduceIte, if_true, if_false, Nat.lt_irrefl, eq_self, Nat.reduceEqDiff, or_true, true_or, or_false, false_or, not_false_eq_true, not_true_eq_false, ce_5, zb_t, zb_f, hi, hx, h5, hA i hi, e1]
    by_cases e : S.c i = t i
    · simp only [e, if_true, df, decide_true, Bool.not_true, Bool.toNat_false, Nat.zero_add, Nat.add_zero]
      rw [m_dif1 hM hs hA hc ht k (i + 1) n (by omega)]
    · simp only [e, if_false, df, decide_false, Bool.not_false, Bool.toNat_true]
      rw [m_dif1 hM hs hA hc ht k (i + 1) (n + 1) (by omega), Nat.add_assoc]
theorem m_dif (hM : MH I A S) {s : Nat} {t : Nat → Nat} (hs : s < 2) (hA : ∀ k, k < 25 → A 9 (25 * s + k) = ce (t k)) (hc : ∀ k, S.c k ≤ 5) (ht : ∀ k, t k ≤ 5) : z_Ca g d 185 [.ref m, .int (nI s)] (mw f m I A, q) P = P (.inr (some (.int (nI (ct (df S.c t) 0 25)))), (mw f m I A, q)) := by
  rw [zn_185]
  simp (disch := omega) only [ze_185_0, ze_185_1, ze_185_2, ze_185_3, ze_185_5, ze_185_7, ze_185_10, ze_185_11, ze_185_12, ze_185_15, ze_185_16, ze_185_17, ze_185_18, ze_185_21, ze_185_23, ze_185_24, ze_185_25, ze_185_26, ze_185_27, ze_185_28, ze_185_31, ze_185_32, ze_185_35, ze_185_36, ze_185_37, ze_185_38, ze_185_41, ze_185_44, ze_185_45, z_k_r, z_push_s, z_push_n, okS_0, okS_I, okS_R, okS_A, List.getElem?_cons_zero, List.getElem?_cons_succ, List.length_cons, List.length_nil, List.set_cons_zero, List.set_cons_succ, true_and, and_true, z_tI, z_tB, pk_mul, nI_add, cI_cl, cI_ix, nar_0, nar_1, nar_b, Nat.reduceAdd, Nat.reduceLT, Nat.reduceMul]
  rw [m_dif1 hM hs hA hc ht 25 0 0 (by omega), Nat.zero_add]
/-- what is told of a line's two sets -/
def ul (c t : Nat → Nat) (fi st : Nat) : Int32 := if anyB (fun n => bd c t (fi + n * st)) 5 = true then -1 else sS (cb c t fi st) ^^^ sS (cb t c fi st)
theorem m_unl1 (hM : MH I A S) {s : Nat} {t : Nat → Nat} (hs : s < 2) (hA : ∀ k, k < 25 → A 9 (25 * s + k) = ce (t k)) (hc : ∀ k, S.c k ≤ 5) (ht : ∀ k, t k ≤ 5) (hd : 0 < d) {l fi st : Nat} {b : Bool} (hl : l < 5) (hb : (b = true ∧ fi = l * 5 ∧ st = 1) ∨ (b = false ∧ fi = l ∧ st = 5)) : ∀ (k i : Nat) (v w : Value), i + k = 5 → (∀ n, n < i → bd S.c t (fi + n * st) = false) → z_T g d 187 9 [.ref m, .int (nI s), .int (nI l), .int (zb b), .int (sS fun x => anyB (fun n => df S.c t (fi + n * st) && decide (S.c (fi + n * st) = x)) i), .int (sS fun x => anyB (fun n => df t S.c (fi + n * st) && decide (t (fi + n * st) = x)) i), .int (nI i), v, w] [] (mw f m I A, q) P = P (.inr (some (.int (ul S.c t fi st))), (mw f m I A, q))
  | 0, i, v, w, h, hn => by
    have : i = 5 := by omega
    subst this
    rw [ze_187_9]
    simp (disch := omega) only [ze_187_0, ze_187_1, ze_187_3, ze_187_4, ze_187_6, ze_187_7, ze_187_11, ze_187_12, ze_187_15, ze_187_16, ze_187_19, ze_187_20, ze_187_22, ze_187_25, ze_187_28, ze_187_30, ze_187_31, ze_187_34, ze_187_36, ze_187_37, ze_187_40, ze_187_42, ze_187_43, ze_187_44, ze_187_46, ze_187_47, ze_187_48, ze_187_50, ze_187_51, ze_187_54, ze_187_56, ze_187_57, ze_187_59, ze_187_62, ze_187_65, ze_187_66, ze_187_69, ze_187_71, ze_187_72, ze_187_73, ze_187_76, ze_187_78, ze_187_79, ze_187_82, ze_187_83, ze_187_84, ze_187_86, ze_187_87, ze_187_88, ze_187_91, ze_187_93, ze_187_94, ze_187_95, ze_187_96, ze_187_98, ze_187_100, ze_187_101, ze_187_103, ze_187_104, ze_187_105, ze_187_107, ze_187_110, ze_187_113, ze_187_115, ze_187_117, ze_187_118, z_k_r, z_push_s, z_push_n, okS_0, okS_I, okS_R, okS_A, List.getElem?_cons_zero, List.getElem?_cons_succ, List.length_cons, List.length_nil, List.set_cons_zero, List.set_cons_succ, true_and, and_true, z_tI, z_tB, pk_mul, nI_add, cI_cl, cI_ix, nar_0, nar_1, nar_b, Nat.reduceAdd, Nat.reduceLT, Nat.reduceMul, ↓mg_0, ↓mg_1, ↓mg_2, ↓mg_3, ↓mg_4, ↓mg_5, ↓mg_6, ↓mg_7, ↓mg_8, ↓mg_9, ↓mg_10, ↓mg_11, ↓mg_12, ↓mg_13, ↓mg_14, ↓mg_15, ↓mg_16, ↓mg_17, ↓mg_18, ↓mg_19, ↓mg_20, ↓mg_21, ↓mg_22, ↓mg_23, ↓mg_24, ↓mg_25, ↓mg_26, ↓mg_27, ↓mg_28, mp_0, mp_1, mp_2, mp_3, mp_4, mp_5, mp_6, mp_13, mp_14, mp_15, mp_16, mp_17, mp_18, mp_19, mp_20, mp_21, mp_23, mL_1, mL_2, mL_3, mL_4, mL_5, mL_6, mL_7, mL_8, mL_9, mL_10, mL_11, mL_12, mS_1, mS_2, mS_3, mS_4, mS_5, mS_6, mS_7, mS_8, mS_9, mS_10, mS_11, mS_12, m_gO, uA_s, uA_n, cI_lt, cI_eq, ↓reduceIte, if_true, if_false, Nat.lt_irrefl, eq_self, Nat.reduceEqDiff, or_true, true_or, or_false, false_or, not_false_eq_true, not_true_eq_false, ce_5, zb_t, zb_f]
    unfold ul
    rw [if_neg (by rw [any_f.mpr hn]; decide)]
    rfl
  | k + 1, i, v, w, h, hn => by
    have hi : i < 5 := by omega
    have h5 := hM.2.2.1
    have hk : fi + i * st < 25 := by rcases hb with ⟨-, rfl, rfl⟩ | ⟨-, rfl, rfl⟩ <;> omega
    have e1 := ce_inj (hc (fi + i * st)) (ht (fi + i * st))
    have e2 := ce_em (hc (fi + i * st))
    have e3 := ce_em (ht (fi + i * st))
    have hx : 25 * s + (fi + i * st) < 50 := by omega
    have ih := fun v w e => m_unl1 hM hs hA hc ht hd hl hb k (i + 1) v w (by omega) e
    have hm : (if b = false then nI (i * 5 + l) else nI (l * 5 + i)) = nI (fi + i * st) := by
      rcases hb with ⟨rfl, rfl, rfl⟩ | ⟨rfl, rfl, rfl⟩
      · rw [if_neg (by decide), Nat.mul_one]
      · rw [if_pos rfl, Nat.add_comm]
    have body : z_T g d 187 34 [.ref m, .int (nI s), .int (nI l), .int (zb b), .int (sS fun x => anyB (fun n => df S.c t (fi + n * st) && decide (S.c (fi + n * st) = x)) i), .int (sS fun x => anyB (fun n => df t S.c (fi + n * st) && decide (t (fi + n * st) = x)) i), .int (nI i), v, w] [.int (nI (fi + i * st))] (mw f m I A, q) P = P (.inr (some (.int (ul S.c t fi st))), (mw f m I A, q)) := by
      simp (disch := omega) only [ze_187_0, ze_187_1, ze_187_3, ze_187_4, ze_187_6, ze_187_7, ze_187_11, ze_187_12, ze_187_15, ze_187_16, ze_187_19, ze_187_20, ze_187_22, ze_187_25, ze_187_28, ze_187_30, ze_187_31, ze_187_34, ze_187_36, ze_187_37, ze_187_40, ze_187_42, ze_187_43, ze_187_44, ze_187_46, ze_187_47, ze_187_48, ze_187_50, ze_187_51, ze_187_54, ze_187_56, ze_187_57, ze_187_59, ze_187_62, ze_187_65, ze_187_66, ze_187_69, ze_187_71, ze_187_72, ze_187_73, ze_187_76, ze_187_78, ze_187_79, ze_187_82, ze_187_83, ze_187_84, ze_187_86, ze_187_87, ze_187_88, ze_187_91, ze_187_93, ze_187_94, ze_187_95, ze_187_96, ze_187_98, ze_187_100, ze_187_101, ze_187_103, ze_187_104, ze_187_105, ze_187_107, ze_187_110, ze_187_113, ze_187_115, ze_187_117, ze_187_118, z_k_r, z_push_s, z_push_n, okS_0, okS_I, okS_R, okS_A, List.getElem?_cons_zero, List.getElem?_cons_succ, List.length_cons, List.length_nil, List.set_cons_zero, List.set_cons_succ, true_and, and_true, z_tI, z_tB, pk_mul, nI_add, cI_cl, cI_ix, nar_0, nar_1, nar_b, Nat.reduceAdd, Nat.reduceLT, Nat.reduceMul, ↓mg_0, ↓mg_1, ↓mg_2, ↓mg_3, ↓mg_4, ↓mg_5, ↓mg_6, ↓mg_7, ↓mg_8, ↓mg_9, ↓mg_10, ↓mg_11, ↓mg_12, ↓mg_13, ↓mg_14, ↓mg_15, ↓mg_16, ↓mg_17, ↓mg_18, ↓mg_19, ↓mg_20, ↓mg_21, ↓mg_22, ↓mg_23, ↓mg_24, ↓mg_25, ↓mg_26, ↓mg_27, ↓mg_28, mp_0, mp_1, mp_2, mp_3, mp_4, mp_5, mp_6, mp_13, mp_14, mp_15, mp_16, mp_17, mp_18, mp_19, mp_20, mp_21, mp_23, mL_1, mL_2, mL_3, mL_4, mL_5, mL_6, mL_7, mL_8, mL_9, mL_10, mL_11, mL_12, mS_1, mS_2, mS_3, mS_4, mS_5, mS_6, mS_7, mS_8, mS_9, mS_10, mS_11, mS_12, m_gO, uA_s, uA_n, cI_lt, cI_eq, ↓reduceIte, if_true, if_false, Nat.lt_irrefl, eq_self, Nat.reduceEqDiff, or_true, true_or, or_false, false_or, not_false_eq_true, not_true_eq_false, ce_5, zb_t, zb_f, hk, hx, h5, hA _ hk, e1, e2, e3]
      by_cases q1 : S.c (fi + i * st) = t (fi + i * st)
      · have d0 : df S.c t (fi + i * st) = false := by unfold df; rw [decide_eq_true q1]; rfl
        simp only [q1, if_true]
        rw [← ih (.int (nI (fi + i * st))) (.int (ce (t (fi + i * st)))) (fun n hn2 => by
          by_cases e4 : n = i
          · rw [e4]; unfold bd; rw [d0]; rfl
          · exact hn n (by omega))]
        have E1 : sS (fun x => anyB (fun n => df S.c t (fi + n * st) && decide (S.c (fi + n * st) = x)) i) = sS (fun x => anyB (fun n => df S.c t (fi + n * st) && decide (S.c (fi + n * st) = x)) (i + 1)) := sS_congr fun x hx => by
          rw [anyB_s, d0, Bool.false_and, Bool.or_false]
        have E2 : sS (fun x => anyB (fun n => df t S.c (fi + n * st) && decide (t (fi + n * st) = x)) i) = sS (fun x => anyB (fun n => df t S.c (fi + n * st) && decide (t (fi + n * st) = x)) (i + 1)) := sS_congr fun x hx => by
          rw [anyB_s, df_comm S.c t (fi + i * st), d0, Bool.false_and, Bool.or_false]
        rw [E1, E2]
      · have d1 : df S.c t (fi + i * st) = true := by unfold df; rw [decide_eq_false q1]; rfl
        by_cases q2 : S.c (fi + i * st) = 5
        · have q1' : ¬ 5 = t (fi + i * st) := fun z => q1 (by rw [q2, z])
          simp only [q2, q1', if_true, if_false]
          unfold ul
          rw [if_pos (any_t hi (by unfold bd; rw [d1, decide_eq_true q2]; rfl))]
        · by_cases q3 : t (fi + i * st) = 5
          · rw [q3] at q1
            simp only [q1, q2, q3, if_true, if_false]
            unfold ul
            rw [if_pos (any_t hi (by unfold bd; rw [d1, q3]; simp))]
          · have s1 : S.c (fi + i * st) < 5 := by have := hc (fi + i * st); omega
            have s2 : t (fi + i * st) < 5 := by have := ht (fi + i * st); omega
            simp (disch := omega) only [q1, q2, q3, if_true, if_false, ze_187_0, ze_187_1, ze_187_3, ze_187_4, ze_187_6, ze_187_7, ze_187_11, ze_187_12, ze_187_15, ze_187_16, ze_187_19, ze_187_20, ze_187_22, ze_187_25, ze_187_28, ze_187_30, ze_187_31, ze_187_34, ze_187_36, ze_187_37, ze_187_40, ze_187_42, ze_187_43, ze_187_44, ze_187_46, ze_187_47, ze_187_48, ze_187_50, ze_187_51, ze_187_54, ze_187_56, ze_187_57, ze_187_59, ze_187_62, ze_187_65, ze_187_66, ze_187_69, ze_187_71, ze_187_72, ze_187_73, ze_187_76, ze_187_78, ze_187_79, ze_187_82, ze_187_83, ze_187_84, ze_187_86, ze_187_87, ze_187_88, ze_187_91, ze_187_93, ze_187_94, ze_187_95, ze_187_96, ze_187_98, ze_187_100, ze_187_101, ze_187_103, ze_187_104, ze_187_105, ze_187_107, ze_187_110, ze_187_113, ze_187_115, ze_187_117, ze_187_118, z_k_r, z_push_s, z_push_n, okS_0, okS_I, okS_R, okS_A, List.getElem?_cons_zero, List.getElem?_cons_succ, List.length_cons, List.length_nil, List.set_cons_zero, List.set_cons_succ, true_and, and_true, z_tI, z_tB, pk_mul, nI_add, cI_cl, cI_ix, nar_0, nar_1, nar_b, Nat.reduceAdd, Nat.reduceLT, Nat.reduceMul, ↓mg_0, ↓mg_1, ↓mg_2, ↓mg_3, ↓mg_4, ↓mg_5, ↓mg_6, ↓mg_7, ↓mg_8, ↓mg_9, ↓mg_10, ↓mg_11, ↓mg_12, ↓mg_13, ↓mg_14, ↓mg_15, ↓mg_16, ↓mg_17, ↓mg_18, ↓mg_19, ↓mg_20, ↓mg_21, ↓mg_22, ↓mg_23, ↓mg_24, ↓mg_25, ↓mg_26, ↓mg_27, ↓mg_28, mp_0, mp_1, mp_2, mp_3, mp_4, mp_5, mp_6, mp_13, mp_14, mp_15, mp_16, mp_17, mp_18, mp_19, mp_20, mp_21, mp_23, mL_1, mL_2, mL_3, mL_4, mL_5, mL_6, mL_7, mL_8, mL_9, mL_10, mL_11, mL_12, mS_1, mS_2, mS_3, mS_4, mS_5, mS_6, mS_7, mS_8, mS_9, mS_10, mS_11, mS_12, m_gO, uA_s, uA_n, h5, ce_lt s1, ce_lt s2, sS_one, sS_or]
            rw [← ih (.int (nI (fi + i * st))) (.int (nI (t (fi + i * st)))) (fun n hn2 => by
              by_cases e4 : n = i
              · rw [e4]; unfold bd; rw [decide_eq_false q2, decide_eq_false q3]; simp
              · exact hn n (by omega))]
            have E1 : sS (fun x => anyB (fun n => df S.c t (fi + n * st) && decide (S.c (fi + n * st) = x)) i || decide (x = S.c (fi + i * st))) = sS (fun x => anyB (fun n => df S.c t (fi + n * st) && decide (S.c (fi + n * st) = x)) (i + 1)) := sS_congr fun x hx => by
              rw [anyB_s, d1, Bool.true_and]
              congr 1
              exact decide_eq_decide.mpr ⟨Eq.symm, Eq.symm⟩
            have E2 : sS (fun x => anyB (fun n => df t S.c (fi + n * st) && decide (t (fi + n * st) = x)) i || decide (x = t (fi + i * st))) = sS (fun x => anyB (fun n => df t S.c (fi + n * st) && decide (t (fi + n * st) = x)) (i + 1)) := sS_congr fun x hx => by
              rw [anyB_s, df_comm S.c t (fi + i * st), d1, Bool.true_and]
              congr 1
              exact decide_eq_decide.mpr ⟨Eq.symm, Eq.symm⟩
            rw [E1, E2]
    rw [ze_187_9]
    simp (disch := omega) only [ze_187_0, ze_187_1, ze_187_3, ze_187_4, ze_187_6, ze_187_7, ze_187_11, ze_187_12, ze_187_15, ze_187_16, ze_187_19, ze_187_20, ze_187_22, ze_187_25, ze_187_28, ze_187_30, ze_187_31, ze_187_36, ze_187_37, ze_187_40, ze_187_42, ze_187_43, ze_187_44, ze_187_46, ze_187_47, ze_187_48, ze_187_50, ze_187_51, ze_187_54, ze_187_56, ze_187_57, ze_187_59, ze_187_62, ze_187_65, ze_187_66, ze_187_69, ze_187_71, ze_187_72, ze_187_73, ze_187_76, ze_187_78, ze_187_79, ze_187_82, ze_187_83, ze_187_84, ze_187_86, ze_187_87, ze_187_88, ze_187_91, ze_187_93, ze_187_94, ze_187_95, ze_187_96, ze_187_98, ze_187_100, ze_187_101, ze_187_103, ze_187_104, ze_187_105, ze_187_107, ze_187_110, ze_187_113, ze_187_115, ze_187_117, ze_187_118, z_k_r, z_push_s, z_push_n, okS_0, okS_I, okS_R, okS_A, List.getElem?_cons_zero, List.getElem?_cons_succ, List.length_cons, List.length_nil, List.set_cons_zero, List.set_cons_succ, true_and, and_true, z_tI, z_tB, pk_mul, nI_add, cI_cl, cI_ix, nar_0, nar_1, nar_b, Nat.reduceAdd, Nat.reduceLT, Nat.reduceMul, ↓mg_0, ↓mg_1, ↓mg_2, ↓mg_3, ↓mg_4, ↓mg_5, ↓mg_6, ↓mg_7, ↓mg_8, ↓mg_9, ↓mg_10, ↓mg_11, ↓mg_12, ↓mg_13, ↓mg_14, ↓mg_15, ↓mg_16, ↓mg_17, ↓mg_18, ↓mg_19, ↓mg_20, ↓mg_21, ↓mg_22, ↓mg_23, ↓mg_24, ↓mg_25, ↓mg_26, ↓mg_27, ↓mg_28, mp_0, mp_1, mp_2, mp_3, mp_4, mp_5, mp_6, mp_13, mp_14, mp_15, mp_16, mp_17, mp_18, mp_19, mp_20, mp_21, mp_23, mL_1, mL_2, mL_3, mL_4, mL_5, mL_6, mL_7, mL_8, mL_9, mL_10, mL_11, mL_12, mS_1, mS_2, mS_3, mS_4, mS_5, mS_6, mS_7, mS_8, mS_9, mS_10, mS_11, mS_12, m_gO, uA_s, uA_n, cI_lt, cI_eq, ↓reduceIte, if_true, if_false, Nat.lt_irrefl, eq_self, Nat.reduceEqDiff, or_true, true_or, or_false, false_or, not_false_eq_true, not_true_eq_false, ce_5, zb_t, zb_f, hi, m_cell, hd, zb_0]
    rw [← hm] at body
    cases b
    · simp only [if_true] at body ⊢
      exact body
    · simp only [if_false, Bool.true_eq_false] at body ⊢
      exact body
theorem m_unl (hM : MH I A S) {s : Nat} {t : Nat → Nat} (hs : s < 2) (hA : ∀ k, k < 25 → A 9 (25 * s + k) = ce (t k)) (hc : ∀ k, S.c k ≤ 5) (ht : ∀ k, t k ≤ 5) (hd : 0 < d) {l fi st : Nat} {b : Bool} (hl : l < 5) (hb : (b = true ∧ fi = l * 5 ∧ st = 1) ∨ (b = false ∧ fi = l ∧ st = 5)) : z_Ca g d 187 [.ref m, .int (nI s), .int (nI l), .int (zb b)] (mw f m I A, q) P = P (.inr (some (.int (ul S.c t fi st))), (mw f m I A, q)) := by
  have := fun v w => m_unl1 (g := g) (f := f) (q := q) (P := P) (m := m) hM hs hA hc ht hd hl hb 5 0 v w (by omega) (fun n hn => by omega)
  simp only [anyB_z, ← sS_0] at this
  rw [zn_187]
  simp (disch := omega) only [ze_187_0, ze_187_1, ze_187_3, ze_187_4, ze_187_6, ze_187_7, ze_187_11, ze_187_12, ze_187_15, ze_187_16, ze_187_19, ze_187_20, ze_187_22, ze_187_25, ze_187_28, ze_187_30, ze_187_31, ze_187_34, ze_187_36, ze_187_37, ze_187_40, ze_187_42, ze_187_43, ze_187_44, ze_187_46, ze_187_47, ze_187_48, ze_187_50, ze_187_51, ze_187_54, ze_187_56, ze_187_57, ze_187_59, ze_187_62, ze_187_65, ze_187_66, ze_187_69, ze_187_71, ze_187_72, ze_187_73, ze_187_76, ze_187_78, ze_187_79, ze_187_82, ze_187_83, ze_187_84, ze_187_86, ze_187_87, ze_187_88, ze_187_91, ze_187_93, ze_187_94, ze_187_95, ze_187_96, ze_187_98, ze_187_100, ze_187_101, ze_187_103, ze_187_104, ze_187_105, ze_187_107, ze_187_110, ze_187_113, ze_187_115, ze_187_117, ze_187_118, z_k_r, z_push_s, z_push_n, okS_0, okS_I, okS_R, okS_A, List.getElem?_cons_zero, List.getElem?_cons_succ, List.length_cons, List.length_nil, List.set_cons_zero, List.set_cons_succ, true_and, and_true, z_tI, z_tB, pk_mul, nI_add, cI_cl, cI_ix, nar_0, nar_1, nar_b, Nat.reduceAdd, Nat.reduceLT, Nat.reduceMul]
  exact this _ _
def lnU (c t : Nat → Nat) (l : Nat) : Bool := decide (ul c t (l * 5) 1 = nI 0) && decide (ul c t l 5 = nI 0)
theorem xor_0 {p p' : Nat → Bool} : (sS p ^^^ sS p' = nI 0) = (sS p = sS p') := by
  rw [sS_xor, sS_eq0, sS_eq]
  refine propext ⟨fun h s hs => ?_, fun h s hs => ?_⟩
  · have := h s hs
    cases a : p s <;> cases b : p' s <;> simp_all
  · rw [h s hs]
    simp
theorem m1_ne0 : ((-1 : Int32) = nI 0) = False := by
  refine eq_false ?_
  decide
theorem tr_U (c t : Nat → Nat) : tr c t = (!decide (ct (df c t) 0 25 = 0) && !anyB (fun l => !lnU c t l) 5) := by
  unfold tr
  congr 1
  by_cases hb : anyB (bd c t) 25 = true
  · rw [hb]
    obtain ⟨k, k1, k2⟩ := (anyB_iff _ _).mp hb
    rw [any_t (p := fun l => !lnU c t l) (k := k / 5) (by omega)]
    · rfl
    · have : ul c t (k / 5 * 5) 1 = -1 := by
        unfold ul
        rw [if_pos]
        refine any_t (k := k % 5) (by omega) ?_
        rw [Nat.mul_one, k_split]
        exact k2
      unfold lnU
      rw [this, decide_eq_false (by rw [m1_ne0]; exact id)]
      rfl
  · have hb' : anyB (bd c t) 25 = false := by simpa using hb
    have nb := any_f.mp hb'
    rw [hb', Bool.not_false, Bool.true_and]
    congr 1
    refine any_congr fun l hl => ?_
    congr 1
    unfold lnU lnE ul
    rw [if_neg (by rw [any_f.mpr (fun n hn => nb _ (by omega))]; decide), if_neg (by rw [any_f.mpr (fun n hn => nb _ (by omega))]; decide)]
    simp only [xor_0]
theorem m_tr1 (hM : MH I A S) {s : Nat} {t : Nat → Nat} (hs : s < 2) (hA : ∀ k, k < 25 → A 9 (25 * s + k) = ce (t k)) (hc : ∀ k, S.c k ≤ 5) (ht : ∀ k, t k ≤ 5) (hd : 1 < d) {b : Bool} : ∀ (k i : Nat), i + k = 5 → z_T g d 188 26 [.ref m, .int (nI s), .int (zb (b && !anyB (fun l => !lnU S.c t l) i)), .int (nI i)] [] (mw f m I A, q) P = P (.inr (some (.int (zb (b && !anyB (fun l => !lnU S.c t l) 5)))), (mw f m I A, q))
  | 0, i, h => by
    have : i = 5 := by omega
    subst this
    rw [ze_188_26]
    simp (disch := omega) only [ze_188_0, ze_188_1, ze_188_2, ze_188_5, ze_188_8, ze_188_9, ze_188_10, ze_188_11, ze_188_12, ze_188_15, ze_188_18, ze_188_19, ze_188_22, ze_188_23, ze_188_24, ze_188_25, ze_188_27, ze_188_28, ze_188_31, ze_188_32, ze_188_35, ze_188_36, ze_188_37, ze_188_38, ze_188_39, ze_188_42, ze_188_45, ze_188_46, ze_188_47, ze_188_48, ze_188_49, ze_188_52, ze_188_55, ze_188_56, ze_188_59, ze_188_60, ze_188_61, ze_188_64, ze_188_67, ze_188_68, z_k_r, z_push_s, z_push_n, okS_0, okS_I, okS_R, okS_A, List.getElem?_cons_zero, List.getElem?_cons_succ, List.length_cons, List.length_nil, List.set_cons_zero, List.set_cons_succ, true_and, and_true, z_tI, z_tB, pk_mul, nI_add, cI_cl, cI_ix, nar_0, nar_1, nar_b, Nat.reduceAdd, Nat.reduceLT, Nat.reduceMul, ↓mg_0, ↓mg_1, ↓mg_2, ↓mg_3, ↓mg_4, ↓mg_5, ↓mg_6, ↓mg_7, ↓mg_8, ↓mg_9, ↓mg_10, ↓mg_11, ↓mg_12, ↓mg_13, ↓mg_14, ↓mg_15, ↓mg_16, ↓mg_17, ↓mg_18, ↓mg_19, ↓mg_20, ↓mg_21, ↓mg_22, ↓mg_23, ↓mg_24, ↓mg_25, ↓mg_26, ↓mg_27, ↓mg_28, mp_0, mp_1, mp_2, mp_3, mp_4, mp_5, mp_6, mp_13, mp_14, mp_15, mp_16, mp_17, mp_18, mp_19, mp_20, mp_21, mp_23, mL_1, mL_2, mL_3, mL_4, mL_5, mL_6, mL_7, mL_8, mL_9, mL_10, mL_11, mL_12, mS_1, mS_2, mS_3, mS_4, mS_5, mS_6, mS_7, mS_8, mS_9, mS_10, mS_11, mS_12, m_gO, uA_s, uA_n, cI_lt, cI_eq, ↓reduceIte, if_true, if_false, Nat.lt_irrefl, eq_self, Nat.reduceEqDiff, or_true, true_or, or_false, false_or, not_false_eq_true, not_true_eq_false, ce_5, zb_t, zb_f]
    cases b && !anyB (fun l => !lnU S.c t l) 5 <;> simp [zb, cI_eq]
  | k + 1, i, h => by
    have hi : i < 5 := by omega
    have hd0 : 0 < d := by omega
    have u1 := fun P => m_unl (g := g) (d := d - 1) (f := f) (q := q) (P := P) (m := m) hM hs hA hc ht (by omega) (l := i) (fi := i * 5) (st := 1) (b := true) hi (Or.inl ⟨rfl, rfl, rfl⟩)
    have u2 := fun P => m_unl (g := g) (d := d - 1) (f := f) (q := q) (P := P) (m := m) hM hs hA hc ht (by omega) (l := i) (fi := i) (st := 5) (b := false) hi (Or.inr ⟨rfl, rfl, rfl⟩)
    rw [zb_t] at u1
    rw [zb_f] at u2
    have eX : (b && !anyB (fun l => !lnU S.c t l) (i + 1)) = ((b && !anyB (fun l => !lnU S.c t l) i) && lnU S.c t i) := by
      rw [anyB_s]
      cases b <;> cases anyB (fun l => !lnU S.c t l) i <;> cases lnU S.c t i <;> rfl
    rw [← m_tr1 hM hs hA hc ht hd k (i + 1) (by omega), eX, ze_188_26]
    simp (disch := omega) only [ze_188_0, ze_188_1, ze_188_2, ze_188_5, ze_188_8, ze_188_9, ze_188_10, ze_188_11, ze_188_12, ze_188_15, ze_188_18, ze_188_19, ze_188_22, ze_188_23, ze_188_24, ze_188_25, ze_188_27, ze_188_28, ze_188_31, ze_188_32, ze_188_35, ze_188_36, ze_188_37, ze_188_38, ze_188_39, ze_188_42, ze_188_45, ze_188_46, ze_188_47, ze_188_48, ze_188_49, ze_188_52, ze_188_55, ze_188_56, ze_188_59, ze_188_60, ze_188_61, ze_188_64, ze_188_67, ze_188_68, z_k_r, z_push_s, z_push_n, okS_0, okS_I, okS_R, okS_A, List.getElem?_cons_zero, List.getElem?_cons_succ, List.length_cons, List.length_nil, List.set_cons_zero, List.set_cons_succ, true_and, and_true, z_tI, z_tB, pk_mul, nI_add, cI_cl, cI_ix, nar_0, nar_1, nar_b, Nat.reduceAdd, Nat.reduceLT, Nat.reduceMul, ↓mg_0, ↓mg_1, ↓mg_2, ↓mg_3, ↓mg_4, ↓mg_5, ↓mg_6, ↓mg_7, ↓mg_8, ↓mg_9, ↓mg_10, ↓mg_11, ↓mg_12, ↓mg_13, ↓mg_14, ↓mg_15, ↓mg_16, ↓mg_17, ↓mg_18, ↓mg_19, ↓mg_20, ↓mg_21, ↓mg_22, ↓mg_23, ↓mg_24, ↓mg_25, ↓mg_26, ↓mg_27, ↓mg_28, mp_0, mp_1, mp_2, mp_3, mp_4, mp_5, mp_6, mp_13, mp_14, mp_15, mp_16, mp_17, mp_18, mp_19, mp_20, mp_21, mp_23, mL_1, mL_2, mL_3, mL_4, mL_5, mL_6, mL_7, mL_8, mL_9, mL_10, mL_11, mL_12, mS_1, mS_2, mS_3, mS_4, mS_5, mS_6, mS_7, mS_8, mS_9, mS_10, mS_11, mS_12, m_gO, uA_s, uA_n, cI_lt, cI_eq, ↓reduceIte, if_true, if_false, Nat.lt_irrefl, eq_self, Nat.reduceEqDiff, or_true, true_or, or_false, false_or, not_false_eq_true, not_true_eq_false, ce_5, zb_t, zb_f, hi, hd0, u1, u2, zb_0]
    generalize (b && !anyB (fun l => !lnU S.c t l) i) = X
    unfold lnU
    cases X
    · simp only [if_true, Bool.false_and, zb_f]
    · by_cases e1 : ul S.c t (i * 5) 1 = nI 0
      · by_cases e2 : ul S.c t i 5 = nI 0
        · simp only [e1, e2, if_true, if_false, Bool.true_eq_false, decide_true, Bool.and_self, zb_t]
        · simp only [e1, e2, if_true, if_false, Bool.true_eq_false, decide_true, decide_false, Bool.and_false, zb_f]
      · simp only [e1, if_true, if_false, Bool.true_eq_false, decide_false, Bool.and_false, Bool.false_and, zb_f]
end
