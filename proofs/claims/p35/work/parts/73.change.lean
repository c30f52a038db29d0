/-! rows filled and forced cells filled, on both sides -/
def oG (o : Option GS) : Bool := match o with
  | some _ => true
  | none => false
theorem oG_map (o : Option (Nat → Nat)) (h : (Nat → Nat) → GS) : oG (o.map h) = oS o := by cases o <;> rfl
theorem rs_cd {S : GS} {r j : Nat} (h : S.rs r j ≠ 0) : S.cd r j (S.fs r j) = true := by
  obtain ⟨b1, b2, b3⟩ := br_fb h
  exact b3 _ (low_sp b2).2.1
theorem cd_em {S : GS} {r j s : Nat} (h : S.cd r j s = true) : S.c (r * 5 + j) = 5 := by
  unfold GS.cd at h
  simp only [Bool.and_eq_true, decide_eq_true_eq] at h
  exact h.1.1.1.2
def GS.pg (S : GS) : Nat → GS
  | 0 => S
  | k + 1 => match kf S.pf (nI 0) 0 25 0 with
    | none => S
    | some i => (S.put (i / 5) (i % 5) (S.fs (i / 5) (i % 5))).pg k
def GS.pgN (S : GS) : Nat → Nat
  | 0 => 0
  | k + 1 => match kf S.pf (nI 0) 0 25 0 with
    | none => 0
    | some i => 1 + (S.put (i / 5) (i % 5) (S.fs (i / 5) (i % 5))).pgN k
theorem pf_sp {S : GS} {i : Nat} (h : S.pf i = true) : i / 5 < S.R ∧ i % 5 < S.C ∧ S.rs (i / 5) (i % 5) ≠ 0 := by
  unfold GS.pf at h
  simp only [Bool.and_eq_true, decide_eq_true_eq] at h
  exact ⟨h.1.1, h.1.2, h.2⟩
theorem pg_sp : ∀ (k : Nat) (S : GS), GI S → GI (S.pg k) ∧ nF (S.pg k).c 25 = nF S.c 25 + S.pgN k ∧ (S.pg k).R = S.R ∧ (S.pg k).C = S.C ∧ (S.pg k).gv = S.gv ∧ (S.pg k).b = S.b ∧ (S.pg k).G = S.G ∧ (S.pg k).N = S.N
  | 0, S, hg => ⟨hg, rfl, rfl, rfl, rfl, rfl, rfl, rfl⟩
  | k + 1, S, hg => by
    unfold GS.pg GS.pgN
    cases e : kf S.pf (nI 0) 0 25 0 with
    | none => exact ⟨hg, rfl, rfl, rfl, rfl, rfl, rfl, rfl⟩
    | some i =>
      obtain ⟨k1, k2, k3⟩ := kf_p _ _ _ _ e
      obtain ⟨p1, p2, p3⟩ := pf_sp k1
      have cd := rs_cd p3
      have hs := fs_lt p3
      obtain ⟨q1, q2, q3, q4, q5, q6, q7, q8⟩ := pg_sp k (S.put (i / 5) (i % 5) (S.fs (i / 5) (i % 5))) (GI_put hg p1 p2 cd)
      refine ⟨q1, ?_, q3, q4, q5, q6, q7, q8⟩
      show nF ((S.put (i / 5) (i % 5) (S.fs (i / 5) (i % 5))).pg k).c 25 = nF S.c 25 + (1 + (S.put (i / 5) (i % 5) (S.fs (i / 5) (i % 5))).pgN k)
      rw [q2]
      show nF (nu S.c (i / 5 * 5 + i % 5) (S.fs (i / 5) (i % 5))) 25 + _ = _
      rw [nF_put S.c (by omega) (cd_em cd) 25 (by omega)]
      omega
theorem pg_none {S : GS} (h : 25 ≤ nF S.c 25) : kf S.pf (nI 0) 0 25 0 = none := by
  have le := nF_le S.c 25
  have full := (nF_full S.c 25).mp (by omega)
  refine kf_none _ _ _ fun j _ hj => ?_
  cases e : S.pf j
  · rfl
  · obtain ⟨p1, p2, p3⟩ := pf_sp e
    have := cd_em (rs_cd p3)
    rw [k_split] at this
    exact absurd this (full j (by omega))
section
variable {g : z_G} {d : Nat} {f : Nat → Option z_C} {q : Option Nat × Nat × Nat} {P : z_Res → Prop} {B : Nat} {G : Nat → GS} {I : Nat → Int32} {A : Nat → Nat → Int32}
theorem c_fr1 {r : Nat} (hr : r < 5) {bf : Nat} {Q : Nat → Nat} (hd : 0 < d) : ∀ (k j : Nat) (T : GS), j + k = T.C → T.C ≤ 5 → (∀ k, T.c k ≤ 5) → (∀ i, j ≤ i → i < T.C → T.c (r * 5 + i) = 5 → A 46 i = nI (Q i) ∧ Q i < T.C) → z_T g d 87 53 [.ref B, .int (nI r), .int (nI bf), .int (nI j)] [] (xw f B (uG G 1 T) I A, q) P = P (.inr (some (.int (nI (nF (T.pF r Q k j).c 25) - nI bf))), (xw f B (uG G 1 (T.pF r Q k j)) I A, q))
  | 0, j, T, h, hC, hc, hA => by
    have : j = T.C := by omega
    subst this
    rw [ze_87_53]
    simp (disch := omega) only [ze_87_0, ze_87_1, ze_87_2, ze_87_5, ze_87_6, ze_87_9, ze_87_10, ze_87_11, ze_87_12, ze_87_13, ze_87_16, ze_87_19, ze_87_22, ze_87_32, ze_87_33, ze_87_36, ze_87_37, ze_87_40, ze_87_43, ze_87_44, ze_87_47, ze_87_50, ze_87_51, ze_87_52, ze_87_54, ze_87_55, ze_87_58, ze_87_61, ze_87_64, ze_87_65, ze_87_68, ze_87_71, ze_87_72, ze_87_73, ze_87_74, ze_87_75, ze_87_76, ze_87_77, ze_87_78, ze_87_81, ze_87_82, ze_87_85, ze_87_86, ze_87_87, ze_87_88, ze_87_91, ze_87_92, ze_87_93, ze_87_96, ze_87_99, ze_87_102, ze_87_103, ze_87_106, ze_87_109, ze_87_110, ze_87_111, z_k_r, z_push_s, z_push_n, okS_0, okS_I, okS_R, okS_A, List.getElem?_cons_zero, List.getElem?_cons_succ, List.length_cons, List.length_nil, List.set_cons_zero, List.set_cons_succ, true_and, and_true, z_tI, z_tB, pk_mul, nI_add, cI_cl, cI_ix, nar_0, nar_1, nar_b, Nat.reduceAdd, Nat.reduceLT, Nat.reduceMul, ↓xr_0_0, ↓xr_0_1, ↓xr_0_2, ↓xr_0_3, ↓xr_0_4, ↓xr_0_5, ↓xr_0_6, ↓xr_0_7, ↓xr_0_8, ↓xr_0_9, ↓xg_14, xp_14, xo_0, ↓xr_7_0, ↓xg_0, xp_0, ↓xg_1, xp_1, ↓xg_2, xp_2, ↓xg_3, xp_3, ↓xg_4, xp_4, ↓xg_5, xp_5, xo_7, ↓xr_9_0, ↓xr_9_1, ↓xg_6, xp_6, ↓xg_7, xp_7, xo_9, ↓xr_16_0, xo_16, ↓xr_17_0, ↓xr_17_1, ↓xr_17_2, ↓xg_8, xp_8, xo_17, ↓xr_25_0, ↓xr_25_1, ↓xg_9, xp_9, ↓xg_10, xp_10, xo_25, ↓xr_27_0, ↓xr_27_1, ↓xg_11, xp_11, xo_27, ↓xr_29_0, ↓xg_12, xp_12, ↓xg_13, xp_13, xo_29, ↓xr_41_0, ↓xr_41_1, xo_41, xL_8, xS_8, xL_24, xS_24, xL_26, xS_26, xL_28, xS_28, xL_31, xS_31, xL_32, xS_32, xL_33, xS_33, xL_34, xS_34, xL_35, xS_35, xL_36, xS_36, xL_37, xS_37, xL_38, xS_38, xL_39, xS_39, xL_40, xS_40, xL_43, xS_43, xL_44, xS_44, xL_45, xS_45, xL_46, xS_46, xq_30, xq_42, ↓xr_1_0, ↓xr_1_1, ↓xr_1_2, ↓xr_1_3, ↓xr_1_4, ↓xh_1_0, ↓xh_1_1, ↓xh_1_2, ↓xh_1_3, ↓xh_1_4, xo_1, xL_2, xL_3, xL_4, xL_5, xL_6, ↓xr_10_0, ↓xr_10_1, ↓xr_10_2, ↓xr_10_3, ↓xr_10_4, ↓xh_10_0, ↓xh_10_1, ↓xh_10_2, ↓xh_10_3, ↓xh_10_4, xo_10, xL_11, xL_12, xL_13, xL_14, xL_15, ↓xr_18_0, ↓xr_18_1, ↓xr_18_2, ↓xr_18_3, ↓xr_18_4, ↓xh_18_0, ↓xh_18_1, ↓xh_18_2, ↓xh_18_3, ↓xh_18_4, xo_18, xL_19, xL_20, xL_21, xL_22, xL_23, uA_s, uA_n, uG_s, uG_n, ne_eq, Nat.reduceEqDiff, not_false_eq_true, cI_lt, cI_eq, ↓reduceIte, if_true, if_false, Nat.lt_irrefl, eq_self, Nat.reduceEqDiff, or_true, true_or, or_false, false_or, not_false_eq_true, not_true_eq_false, ce_5, zb_t, zb_f]
    rfl
  | k + 1, j, T, h, hC, hc, hA => by
    have hj : j < T.C := by omega
    have e5 := ce_em (hc (r * 5 + j))
    unfold GS.pF
    rw [ze_87_53]
    by_cases e : T.c (r * 5 + j) = 5
    · obtain ⟨a1, a2⟩ := hA j (Nat.le_refl _) hj e
      have pt := fun P => x_put (g := g) (d := d - 1) (f := f) (q := q) (P := P) (B := B) (G := uG G 1 T) (I := I) (A := A) (r := r) (j := j) (s := Q j) hr (by omega) (by omega) (by rw [uG_s]; exact e)
      simp only [uG_s, uG_uG] at pt
      rw [if_pos e]
      simp (disch := omega) only [ze_87_0, ze_87_1, ze_87_2, ze_87_5, ze_87_6, ze_87_9, ze_87_10, ze_87_11, ze_87_12, ze_87_13, ze_87_16, ze_87_19, ze_87_22, ze_87_32, ze_87_33, ze_87_36, ze_87_37, ze_87_40, ze_87_43, ze_87_44, ze_87_47, ze_87_50, ze_87_51, ze_87_52, ze_87_54, ze_87_55, ze_87_58, ze_87_61, ze_87_64, ze_87_65, ze_87_68, ze_87_71, ze_87_72, ze_87_73, ze_87_74, ze_87_75, ze_87_76, ze_87_77, ze_87_78, ze_87_81, ze_87_82, ze_87_85, ze_87_86, ze_87_87, ze_87_88, ze_87_91, ze_87_92, ze_87_93, ze_87_96, ze_87_99, ze_87_102, ze_87_103, ze_87_106, ze_87_109, ze_87_110, ze_87_111, z_k_r, z_push_s, z_push_n, okS_0, okS_I, okS_R, okS_A, List.getElem?_cons_zero, List.getElem?_cons_succ, List.length_cons, List.length_nil, List.set_cons_zero, List.set_cons_succ, true_and, and_true, z_tI, z_tB, pk_mul, nI_add, cI_cl, cI_ix, nar_0, nar_1, nar_b, Nat.reduceAdd, Nat.reduceLT, Nat.reduceMul, ↓xr_0_0, ↓xr_0_1, ↓xr_0_2, ↓xr_0_3, ↓xr_0_4, ↓xr_0_5, ↓xr_0_6, ↓xr_0_7, ↓xr_0_8, ↓xr_0_9, ↓xg_14, xp_14, xo_0, ↓xr_7_0, ↓xg_0, xp_0, ↓xg_1, xp_1, ↓xg_2, xp_2, ↓xg_3, xp_3, ↓xg_4, xp_4, ↓xg_5, xp_5, xo_7, ↓xr_9_0, ↓xr_9_1, ↓xg_6, xp_6, ↓xg_7, xp_7, xo_9, ↓xr_16_0, xo_16, ↓xr_17_0, ↓xr_17_1, ↓xr_17_2, ↓xg_8, xp_8, xo_17, ↓xr_25_0, ↓xr_25_1, ↓xg_9, xp_9, ↓xg_10, xp_10, xo_25, ↓xr_27_0, ↓xr_27_1, ↓xg_11, xp_11, xo_27, ↓xr_29_0, ↓xg_12, xp_12, ↓xg_13, xp_13, xo_29, ↓xr_41_0, ↓xr_41_1, xo_41, xL_8, xS_8, xL_24, xS_24, xL_26, xS_26, xL_28, xS_28, xL_31, xS_31, xL_32, xS_32, xL_33, xS_33, xL_34, xS_34, xL_35, xS_35, xL_36, xS_36, xL_37, xS_37, xL_38, xS_38, xL_39, xS_39, xL_40, xS_40, xL_43, xS_43, xL_44, xS_44, xL_45, xS_45, xL_46, xS_46, xq_30, xq_42, ↓xr_1_0, ↓xr_1_1, ↓xr_1_2, ↓xr_1_3, ↓xr_1_4, ↓xh_1_0, ↓xh_1_1, ↓xh_1_2, ↓xh_1_3, ↓xh_1_4, xo_1, xL_2, xL_3, xL_4, xL_5, xL_6, ↓xr_10_0, ↓xr_10_1, ↓xr_10_2, ↓xr_10_3, ↓xr_10_4, ↓xh_10_0, ↓xh_10_1, ↓xh_10_2, ↓xh_10_3, ↓xh_10_4, xo_10, xL_11, xL_12, xL_13, xL_14, xL_15, ↓xr_18_0, ↓xr_18_1, ↓xr_18_2, ↓xr_18_3, ↓xr_18_4, ↓xh_18_0, ↓xh_18_1, ↓xh_18_2, ↓xh_18_3, ↓xh_18_4, xo_18, xL_19, xL_20, xL_21, xL_22, xL_23, uA_s, uA_n, uG_s, uG_n, ne_eq, Nat.reduceEqDiff, not_false_eq_true, cI_lt, cI_eq, ↓reduceIte, if_true, if_false, Nat.lt_irrefl, eq_self, Nat.reduceEqDiff, or_true, true_or, or_false, false_or, not_false_eq_true, not_true_eq_false, ce_5, zb_t, zb_f, hj, e5, e, a1, hd, pt]
      exact c_fr1 hr hd k (j + 1) (T.put r j (Q j)) (show j + 1 + k = T.C by omega) hC (fun x => by
        show nu T.c (r * 5 + j) (Q j) x ≤ 5
        unfold nu
        split
        · omega
        · exact hc x) (fun i i1 i2 i3 => hA i (by omega) i2 (by
          have : nu T.c (r * 5 + j) (Q j) (r * 5 + i) = 5 := i3
          rw [nu_n (by omega)] at this
          exact this))
    · rw [if_neg e]
      simp (disch := omega) only [ze_87_0, ze_87_1, ze_87_2, ze_87_5, ze_87_6, ze_87_9, ze_87_10, ze_87_11, ze_87_12, ze_87_13, ze_87_16, ze_87_19, ze_87_22, ze_87_32, ze_87_33, ze_87_36, ze_87_37, ze_87_40, ze_87_43, ze_87_44, ze_87_47, ze_87_50, ze_87_51, ze_87_52, ze_87_54, ze_87_55, ze_87_58, ze_87_61, ze_87_64, ze_87_65, ze_87_68, ze_87_71, ze_87_72, ze_87_73, ze_87_74, ze_87_75, ze_87_76, ze_87_77, ze_87_78, ze_87_81, ze_87_82, ze_87_85, ze_87_86, ze_87_87, ze_87_88, ze_87_91, ze_87_92, ze_87_93, ze_87_96, ze_87_99, ze_87_102, ze_87_103, ze_87_106, ze_87_109, ze_87_110, ze_87_111, z_k_r, z_push_s, z_push_n, okS_0, okS_I, okS_R, okS_A, List.getElem?_cons_zero, List.getElem?_cons_succ, List.length_cons, List.length_nil, List.set_cons_zero, List.set_cons_succ, true_and, and_true, z_tI, z_tB, pk_mul, nI_add, cI_cl, cI_ix, nar_0, nar_1, nar_b, Nat.reduceAdd, Nat.reduceLT, Nat.reduceMul, ↓xr_0_0, ↓xr_0_1, ↓xr_0_2, ↓xr_0_3, ↓xr_0_4, ↓xr_0_5, ↓xr_0_6, ↓xr_0_7, ↓xr_0_8, ↓xr_0_9, ↓xg_14, xp_14, xo_0, ↓xr_7_0, ↓xg_0, xp_0, ↓xg_1, xp_1, ↓xg_2, xp_2, ↓xg_3, xp_3, ↓xg_4, xp_4, ↓xg_5, xp_5, xo_7, ↓xr_9_0, ↓xr_9_1, ↓xg_6, xp_6, ↓xg_7, xp_7, xo_9, ↓xr_16_0, xo_16, ↓xr_17_0, ↓xr_17_1, ↓xr_17_2, ↓xg_8, xp_8, xo_17, ↓xr_25_0, ↓xr_25_1, ↓xg_9, xp_9, ↓xg_10, xp_10, xo_25, ↓xr_27_0, ↓xr_27_1, ↓xg_11, xp_11, xo_27, ↓xr_29_0, ↓xg_12, xp_12, ↓xg_13, xp_13, xo_29, ↓xr_41_0, ↓xr_41_1, xo_41, xL_8, xS_8, xL_24, xS_24, xL_26, xS_26, xL_28, xS_28, xL_31, xS_31, xL_32, xS_32, xL_33, xS_33, xL_34, xS_34, xL_35, xS_35, xL_36, xS_36, xL_37, xS_37, xL_38, xS_38, xL_39, xS_39, xL_40, xS_40, xL_43, xS_43, xL_44, xS_44, xL_45, xS_45, xL_46, xS_46, xq_30, xq_42, ↓xr_1_0, ↓xr_1_1, ↓xr_1_2, ↓xr_1_3, ↓xr_1_4, ↓xh_1_0, ↓xh_1_1, ↓xh_1_2, ↓xh_1_3, ↓xh_1_4, xo_1, xL_2, xL_3, xL_4, xL_5, xL_6, ↓xr_10_0, ↓xr_10_1, ↓xr_10_2, ↓xr_10_3, ↓xr_10_4, ↓xh_10_0, ↓xh_10_1, ↓xh_10_2, ↓xh_10_3, ↓xh_10_4, xo_10, xL_11, xL_12, xL_13, xL_14, xL_15, ↓xr_18_0, ↓xr_18_1, ↓xr_18_2, ↓xr_18_3, ↓xr_18_4, ↓xh_18_0, ↓xh_18_1, ↓xh_18_2, ↓xh_18_3, ↓xh_18_4, xo_18, xL_19, xL_20, xL_21, xL_22, xL_23, uA_s, uA_n, uG_s, uG_n, ne_eq, Nat.reduceEqDiff, not_false_eq_true, cI_lt, cI_eq, ↓reduceIte, if_true, if_false, Nat.lt_irrefl, eq_self, Nat.reduceEqDiff, or_true, true_or, or_false, false_or, not_false_eq_true, not_true_eq_false, ce_5, zb_t, zb_f, hj, e5, e, hd]
      exact c_fr1 hr hd k (j + 1) T (by omega) hC hc (fun i i1 i2 i3 => hA i (by omega) i2 i3)
theorem x_place (hg : GI (G 1)) (hd : 3 < d) {x : Int32} : z_Ca g d 17 [.ref (B + 16), .int x] (xw f B G I A, q) P = P (.inr (some (.int (on (kf (G 1).pf x 0 25 0)))), (xw f B G I A, q)) := by
  have hC := hg.C5
  have hR := hg.RC
  have hF : gw (xw f B G I A) (B + 1) (G 1).w (B + 16) = some (.inr (2, [.ref (B + 1)])) := by rw [xj_1]; exact xw_16 f B G I A
  have := s_place (g := g) (q := q) (P := P) hF hg.c5 hC (by omega) hd (x := x)
  rw [xj_1] at this
  exact this
theorem x_sym (hg : GI (G 1)) (hd : 3 < d) {r j : Nat} (hr : r < 5) (hj : j < 5) (hs : (G 1).rs r j ≠ 0) : z_Ca g d 19 [.ref (B + 16), .int (nI r), .int (nI j)] (xw f B G I A, q) P = P (.inr (some (.int (nI ((G 1).fs r j)))), (xw f B G I A, q)) := by
  have hC := hg.C5
  have hR := hg.RC
  have hF : gw (xw f B G I A) (B + 1) (G 1).w (B + 16) = some (.inr (2, [.ref (B + 1)])) := by rw [xj_1]; exact xw_16 f B G I A
  have := s_sym (g := g) (q := q) (P := P) hF hg.c5 hC (by omega) hd hr hj hs
  rw [xj_1] at this
  exact this
theorem c_pg1 {bf : Nat} (hd : 4 < d) : ∀ (k n : Nat) (T : GS) (u v w : Value), n + k = 25 → GI T → z_T g d 86 21 [.ref B, .int (nI bf), .int (nI n), u, v, w] [] (xw f B (uG G 1 T) I A, q) P = P (.inr (some (.int (nI (nF (T.pg k).c 25) - nI bf))), (xw f B (uG G 1 (T.pg k)) I A, q))
  | 0, n, T, u, v, w, h, hg => by
    have : n = 25 := by omega
    subst this
    rw [ze_86_21]
    simp (disch := omega) only [ze_86_0, ze_86_1, ze_86_4, ze_86_5, ze_86_8, ze_86_11, ze_86_12, ze_86_15, ze_86_18, ze_86_19, ze_86_20, ze_86_22, ze_86_24, ze_86_27, ze_86_28, ze_86_31, ze_86_32, ze_86_35, ze_86_36, ze_86_37, ze_86_38, ze_86_41, ze_86_44, ze_86_45, ze_86_46, ze_86_47, ze_86_49, ze_86_50, ze_86_51, ze_86_52, ze_86_54, ze_86_55, ze_86_58, ze_86_60, ze_86_62, ze_86_63, ze_86_66, ze_86_68, ze_86_70, ze_86_73, ze_86_76, ze_86_79, ze_86_82, ze_86_83, ze_86_86, ze_86_89, ze_86_90, ze_86_91, z_k_r, z_push_s, z_push_n, okS_0, okS_I, okS_R, okS_A, List.getElem?_cons_zero, List.getElem?_cons_succ, List.length_cons, List.length_nil, List.set_cons_zero, List.set_cons_succ, true_and, and_true, z_tI, z_tB, pk_mul, nI_add, cI_cl, cI_ix, nar_0, nar_1, nar_b, Nat.reduceAdd, Nat.reduceLT, Nat.reduceMul, ↓xr_0_0, ↓xr_0_1, ↓xr_0_2, ↓xr_0_3, ↓xr_0_4, ↓xr_0_5, ↓xr_0_6, ↓xr_0_7, ↓xr_0_8, ↓xr_0_9, ↓xg_14, xp_14, xo_0, ↓xr_7_0, ↓xg_0, xp_0, ↓xg_1, xp_1, ↓xg_2, xp_2, ↓xg_3, xp_3, ↓xg_4, xp_4, ↓xg_5, xp_5, xo_7, ↓xr_9_0, ↓xr_9_1, ↓xg_6, xp_6, ↓xg_7, xp_7, xo_9, ↓xr_16_0, xo_16, ↓xr_17_0, ↓xr_17_1, ↓xr_17_2, ↓xg_8, xp_8, xo_17, ↓xr_25_0, ↓xr_25_1, ↓xg_9, xp_9, ↓xg_10, xp_10, xo_25, ↓xr_27_0, ↓xr_27_1, ↓xg_11, xp_11, xo_27, ↓xr_29_0, ↓xg_12, xp_12, ↓xg_13, xp_13, xo_29, ↓xr_41_0, ↓xr_41_1, xo_41, xL_8, xS_8, xL_24, xS_24, xL_26, xS_26, xL_28, xS_28, xL_31, xS_31, xL_32, xS_32, xL_33, xS_33, xL_34, xS_34, xL_35, xS_35, xL_36, xS_36, xL_37, xS_37, xL_38, xS_38, xL_39, xS_39, xL_40, xS_40, xL_43, xS_43, xL_44, xS_44, xL_45, xS_45, xL_46, xS_46, xq_30, xq_42, ↓xr_1_0, ↓xr_1_1, ↓xr_1_2, ↓xr_1_3, ↓xr_1_4, ↓xh_1_0, ↓xh_1_1, ↓xh_1_2, ↓xh_1_3, ↓xh_1_4, xo_1, xL_2, xL_3, xL_4, xL_5, xL_6, ↓xr_10_0, ↓xr_10_1, ↓xr_10_2, ↓xr_10_3, ↓xr_10_4, ↓xh_10_0, ↓xh_10_1, ↓xh_10_2, ↓xh_10_3, ↓xh_10_4, xo_10, xL_11, xL_12, xL_13, xL_14, xL_15, ↓xr_18_0, ↓xr_18_1, ↓xr_18_2, ↓xr_18_3, ↓xr_18_4, ↓xh_18_0, ↓xh_18_1, ↓xh_18_2, ↓xh_18_3, ↓xh_18_4, xo_18, xL_19, xL_20, xL_21, xL_22, xL_23, uA_s, uA_n, uG_s, uG_n, ne_eq, Nat.reduceEqDiff, not_false_eq_true, cI_lt, cI_eq, ↓reduceIte, if_true, if_false, Nat.lt_irrefl, eq_self, Nat.reduceEqDiff, or_true, true_or, or_false, false_or, not_false_eq_true, not_true_eq_false, ce_5, zb_t, zb_f]
    rfl
  | k + 1, n, T, u, v, w, h, hg => by
    have hC := hg.C5
    have hR := hg.RC
    have hn : n < 25 := by omega
    have hd0 : 0 < d := by omega
    have pl := fun P => x_place (g := g) (d := d - 1) (f := f) (q := q) (P := P) (B := B) (G := uG G 1 T) (I := I) (A := A) (by rw [uG_s]; exact hg) (by omega) (x := nI 0)
    simp only [uG_s] at pl
    unfold GS.pg
    rw [ze_86_21]
    cases e : kf T.pf (nI 0) 0 25 0 with
    | none =>
      rw [e, show on none = -1 from rfl] at pl
      simp (disch := omega) only [ze_86_0, ze_86_1, ze_86_4, ze_86_5, ze_86_8, ze_86_11, ze_86_12, ze_86_15, ze_86_18, ze_86_19, ze_86_20, ze_86_22, ze_86_24, ze_86_27, ze_86_28, ze_86_31, ze_86_32, ze_86_35, ze_86_36, ze_86_37, ze_86_38, ze_86_41, ze_86_44, ze_86_45, ze_86_46, ze_86_47, ze_86_49, ze_86_50, ze_86_51, ze_86_52, ze_86_54, ze_86_55, ze_86_58, ze_86_60, ze_86_62, ze_86_63, ze_86_66, ze_86_68, ze_86_70, ze_86_73, ze_86_76, ze_86_79, ze_86_82, ze_86_83, ze_86_86, ze_86_89, ze_86_90, ze_86_91, z_k_r, z_push_s, z_push_n, okS_0, okS_I, okS_R, okS_A, List.getElem?_cons_zero, List.getElem?_cons_succ, List.length_cons, List.length_nil, List.set_cons_zero, List.set_cons_succ, true_and, and_true, z_tI, z_tB, pk_mul, nI_add, cI_cl, cI_ix, nar_0, nar_1, nar_b, Nat.reduceAdd, Nat.reduceLT, Nat.reduceMul, ↓xr_0_0, ↓xr_0_1, ↓xr_0_2, ↓xr_0_3, ↓xr_0_4, ↓xr_0_5, ↓xr_0_6, ↓xr_0_7, ↓xr_0_8, ↓xr_0_9, ↓xg_14, xp_14, xo_0, ↓xr_7_0, ↓xg_0, xp_0, ↓xg_1, xp_1, ↓xg_2, xp_2, ↓xg_3, xp_3, ↓xg_4, xp_4, ↓xg_5, xp_5, xo_7, ↓xr_9_0, ↓xr_9_1, ↓xg_6, xp_6, ↓xg_7, xp_7, xo_9, ↓xr_16_0, xo_16, ↓xr_17_0, ↓xr_17_1, ↓xr_17_2, ↓xg_8, xp_8, xo_17, ↓xr_25_0, ↓xr_25_1, ↓xg_9, xp_9, ↓xg_10, xp_10, xo_25, ↓xr_27_0, ↓xr_27_1, ↓xg_11, xp_11, xo_27, ↓xr_29_0, ↓xg_12, xp_12, ↓xg_13, xp_13, xo_29, ↓xr_41_0, ↓xr_41_1, xo_41, xL_8, xS_8, xL_24, xS_24, xL_26, xS_26, xL_28, xS_28, xL_31, xS_31, xL_32, xS_32, xL_33, xS_33, xL_34, xS_34, xL_35, xS_35, xL_36, xS_36, xL_37, xS_37, xL_38, xS_38, xL_39, xS_39, xL_40, xS_40, xL_43, xS_43, xL_44, xS_44, xL_45, xS_45, xL_46, xS_46, xq_30, xq_42, ↓xr_1_0, ↓xr_1_1, ↓xr_1_2, ↓xr_1_3, ↓xr_1_4, ↓xh_1_0, ↓xh_1_1, ↓xh_1_2, ↓xh_1_3, ↓xh_1_4, xo_1, xL_2, xL_3, xL_4, xL_5, xL_6, ↓xr_10_0, ↓xr_10_1, ↓xr_10_2, ↓xr_10_3, ↓xr_10_4, ↓xh_10_0, ↓xh_10_1, ↓xh_10_2, ↓xh_10_3, ↓xh_10_4, xo_10, xL_11, xL_12, xL_13, xL_14, xL_15, ↓xr_18_0, ↓xr_18_1, ↓xr_18_2, ↓xr_18_3, ↓xr_18_4, ↓xh_18_0, ↓xh_18_1, ↓xh_18_2, ↓xh_18_3, ↓xh_18_4, xo_18, xL_19, xL_20, xL_21, xL_22, xL_23, uA_s, uA_n, uG_s, uG_n, ne_eq, Nat.reduceEqDiff, not_false_eq_true, cI_lt, cI_eq, ↓reduceIte, if_true, if_false, Nat.lt_irrefl, eq_self, Nat.reduceEqDiff, or_true, true_or, or_false, false_or, not_false_eq_true, not_true_eq_false, ce_5, zb_t, zb_f, hn, hd0, pl]
    | some i =>
      obtain ⟨k1, k2, k3⟩ := kf_p _ _ _ _ e
      obtain ⟨p1, p2, p3⟩ := pf_sp k1
      have cd := rs_cd p3
      have hs := fs_lt p3
      have em : nI i - nI (i / 5 * 5) = nI (i % 5) := by rw [cI_sub (by omega)]; congr 1; omega
      rw [e, show on (some i) = nI i from rfl] at pl
      have sy := fun P => x_sym (g := g) (d := d - 1) (f := f) (q := q) (P := P) (B := B) (G := uG G 1 T) (I := I) (A := A) (by rw [uG_s]; exact hg) (by omega) (r := i / 5) (j := i % 5) (by omega) (by omega) (by rw [uG_s]; exact p3)
      have pt := fun P => x_put (g := g) (d := d - 1) (f := f) (q := q) (P := P) (B := B) (G := uG G 1 T) (I := I) (A := A) (r := i / 5) (j := i % 5) (s := T.fs (i / 5) (i % 5)) (by omega) (by omega) hs (by rw [uG_s]; exact cd_em cd)
      simp only [uG_s, uG_uG] at pt sy
      simp (disch := omega) only [ze_86_0, ze_86_1, ze_86_4, ze_86_5, ze_86_8, ze_86_11, ze_86_12, ze_86_15, ze_86_18, ze_86_19, ze_86_20, ze_86_22, ze_86_24, ze_86_27, ze_86_28, ze_86_31, ze_86_32, ze_86_35, ze_86_36, ze_86_37, ze_86_38, ze_86_41, ze_86_44, ze_86_45, ze_86_46, ze_86_47, ze_86_49, ze_86_50, ze_86_51, ze_86_52, ze_86_54, ze_86_55, ze_86_58, ze_86_60, ze_86_62, ze_86_63, ze_86_66, ze_86_68, ze_86_70, ze_86_73, ze_86_76, ze_86_79, ze_86_82, ze_86_83, ze_86_86, ze_86_89, ze_86_90, ze_86_91, z_k_r, z_push_s, z_push_n, okS_0, okS_I, okS_R, okS_A, List.getElem?_cons_zero, List.getElem?_cons_succ, List.length_cons, List.length_nil, List.set_cons_zero, List.set_cons_succ, true_and, and_true, z_tI, z_tB, pk_mul, nI_add, cI_cl, cI_ix, nar_0, nar_1, nar_b, Nat.reduceAdd, Nat.reduceLT, Nat.reduceMul, ↓xr_0_0, ↓xr_0_1, ↓xr_0_2, ↓xr_0_3, ↓xr_0_4, ↓xr_0_5, ↓xr_0_6, ↓xr_0_7, ↓xr_0_8, ↓xr_0_9, ↓xg_14, xp_14, xo_0, ↓xr_7_0, ↓xg_0, xp_0, ↓xg_1, xp_1, ↓xg_2, xp_2, ↓xg_3, xp_3, ↓xg_4, xp_4, ↓xg_5, xp_5, xo_7, ↓xr_9_0, ↓xr_9_1, ↓xg_6, xp_6, ↓xg_7, xp_7, xo_9, ↓xr_16_0, xo_16, ↓xr_17_0, ↓xr_17_1, ↓xr_17_2, ↓xg_8, xp_8, xo_17, ↓xr_25_0, ↓xr_25_1, ↓xg_9, xp_9, ↓xg_10, xp_10, xo_25, ↓xr_27_0, ↓xr_27_1, ↓xg_11, xp_11, xo_27, ↓xr_29_0, ↓xg_12, xp_12, ↓xg_13, xp_13, xo_29, ↓xr_41_0, ↓xr_41_1, xo_41, xL_8, xS_8, xL_24, xS_24, xL_26, xS_26, xL_28, xS_28, xL_31, xS_31, xL_32, xS_32, xL_33, xS_33, xL_34, xS_34, xL_35, xS_35, xL_36, xS_36, xL_37, xS_37, xL_38, xS_38, xL_39, xS_39, xL_40, xS_40, xL_43, xS_43, xL_44, xS_44, xL_45, xS_45, xL_46, xS_46, xq_30, xq_42, ↓xr_1_0, ↓xr_1_1, ↓xr_1_2, ↓xr_1_3, ↓xr_1_4, ↓xh_1_0, ↓xh_1_1, ↓xh_1_2, ↓xh_1_3, ↓xh_1_4, xo_1, xL_2, xL_3, xL_4, xL_5, xL_6, ↓xr_10_0, ↓xr_10_1, ↓xr_10_2, ↓xr_10_3, ↓xr_10_4, ↓xh_10_0, ↓xh_10_1, ↓xh_10_2, ↓xh_10_3, ↓xh_10_4, xo_10, xL_11, xL_12, xL_13, xL_14, xL_15, ↓xr_18_0, ↓xr_18_1, ↓xr_18_2, ↓xr_18_3, ↓xr_18_4, ↓xh_18_0, ↓xh_18_1, ↓xh_18_2, ↓xh_18_3, ↓xh_18_4, xo_18, xL_19, xL_20, xL_21, xL_22, xL_23, uA_s, uA_n, uG_s, uG_n, ne_eq, Nat.reduceEqDiff, not_false_eq_true, cI_lt, cI_eq, ↓reduceIte, if_true, if_false, Nat.lt_irrefl, eq_self, Nat.reduceEqDiff, or_true, true_or, or_false, false_or, not_false_eq_true, not_true_eq_false, ce_5, zb_t, zb_f, hn, hd0, pl, on_m1, cI_div, em, sy, pt]
      exact c_pg1 hd k (n + 1) _ _ _ _ (by omega) (GI_put hg p1 p2 cd)
end
section
variable {g : z_G} {d : Nat} {f : Nat → Option z_C} {q : Option Nat × Nat × Nat} {P : z_Res → Prop} {m : Nat} {I : Nat → Int32} {A : Nat → Nat → Int32} {S : GS}
end
