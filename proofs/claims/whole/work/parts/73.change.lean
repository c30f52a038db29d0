/-! rows filled and forced cells filled, on both sides -/
def oG (o : Option GS) : Bool := match o with
  | some _ => true
  | none => false
theorem oG_map (o : Option (Nat → Nat)) (h : (Nat → Nat) → GS) : oG (o.map h) = oS o := by cases o <;> rfl
theorem rs_cd {S : GS} {r j : Nat} (h : S.rs r j ≠ 0) : S.cd r j (S.fs r j) = true := by
  obtain ⟨b1, b2, b3⟩ := br_fb h
  exact b3 _ (low_sp b2).2.1
theorem cd_em {S : GS} {r j s : Nat} (h : S.cd r j s = true) : S.c (r * 5 + j) = 5 := by
  unfold GS.cd at h
  simp only [Bool.and_eq_true, decide_eq_true_eq] at h
  exact h.1.1.1.2
def GS.pg (S : GS) : Nat → GS
  | 0 => S
  | k + 1 => match kf S.pf (nI 0) 0 25 0 with
    | none => S
    | some i => (S.put (i / 5) (i % 5) (S.fs (i / 5) (i % 5))).pg k
def GS.pgN (S : GS) : Nat → Nat
  | 0 => 0
  | k + 1 => match kf S.pf (nI 0) 0 25 0 with
    | none => 0
    | some i => 1 + (S.put (i / 5) (i % 5) (S.fs (i / 5) (i % 5))).pgN k
theorem pf_sp {S : GS} {i : Nat} (h : S.pf i = true) : i / 5 < S.R ∧ i % 5 < S.C ∧ S.rs (i / 5) (i % 5) ≠ 0 := by
  unfold GS.pf at h
  simp only [Bool.and_eq_true, decide_eq_true_eq] at h
  exact ⟨h.1.1, h.1.2, h.2⟩
theorem pg_sp : ∀ (k : Nat) (S : GS), GI S → GI (S.pg k) ∧ nF (S.pg k).c 25 = nF S.c 25 + S.pgN k ∧ (S.pg k).R = S.R ∧ (S.pg k).C = S.C ∧ (S.pg k).gv = S.gv ∧ (S.pg k).b = S.b ∧ (S.pg k).G = S.G ∧ (S.pg k).N = S.N
  | 0, S, hg => ⟨hg, rfl, rfl, rfl, rfl, rfl, rfl, rfl⟩
  | k + 1, S, hg => by
    unfold GS.pg GS.pgN
    cases e : kf S.pf (nI 0) 0 25 0 with
    | none => exact ⟨hg, rfl, rfl, rfl, rfl, rfl, rfl, rfl⟩
    | some i =>
      obtain ⟨k1, k2, k3⟩ := kf_p _ _ _ _ e
      obtain ⟨p1, p2, p3⟩ := pf_sp k1
      have cd := rs_cd p3
      have hs := fs_lt p3
      obtain ⟨q1, q2, q3, q4, q5, q6, q7, q8⟩ := pg_sp k (S.put (i / 5) (i % 5) (S.fs (i / 5) (i % 5))) (GI_put hg p1 p2 cd)
      refine ⟨q1, ?_, q3, q4, q5, q6, q7, q8⟩
      show nF ((S.put (i / 5) (i % 5) (S.fs (i / 5) (i % 5))).pg k).c 25 = nF S.c 25 + (1 + (S.put (i / 5) (i % 5) (S.fs (i / 5) (i % 5))).pgN k)
      rw [q2]
      show nF (nu S.c (i / 5 * 5 + i % 5) (S.fs (i / 5) (i % 5))) 25 + _ = _
      rw [nF_put S.c (by omega) (cd_em cd) 25 (by omega)]
      omega
theorem pg_none {S : GS} (h : 25 ≤ nF S.c 25) : kf S.pf (nI 0) 0 25 0 = none := by
  have le := nF_le S.c 25
  have full := (nF_full S.c 25).mp (by omega)
  refine kf_none _ _ _ fun j _ hj => ?_
  cases e : S.pf j
  · rfl
  · obtain ⟨p1, p2, p3⟩ := pf_sp e
    have := cd_em (rs_cd p3)
    rw [k_split] at this
    exact absurd this (full j (by omega))
section
variable {g : z_G} {d : Nat} {f : Nat → Option z_C} {q : Option Nat × Nat × Nat} {P : z_Res → Prop} {B : Nat} {G : Nat → GS} {I : Nat → Int32} {A : Nat → Nat → Int32}
theorem c_fr1 {r : Nat} (hr : r < 5) {bf : Nat} {Q : Nat → Nat} (hd : 0 < d) : ∀ (k j : Nat) (T : GS), j + k = T.C → T.C ≤ 5 → (∀ k, T.c k ≤ 5) → (∀ i, j ≤ i → i < T.C → T.c (r * 5 + i) = 5 → A 46 i = nI (Q i) ∧ Q i < T.C) → z_T g d 107 53 [.ref B, .int (nI r), .int (nI bf), .int (nI j)] [] (xw f B (uG G 1 T) I A, q) P = P (.inr (some (.int (nI (nF (T.pF r Q k j).c 25) - nI bf))), (xw f B (uG G 1 (T.pF r Q k j)) I A, q))
  | 0, j, T, h, hC, hc, hA => by
    have : j = T.C := by omega
    subst this
    rw [ze_107_53]
    simp (disch := omega) only [ze_107_0, ze_107_1, ze_107_2, ze_107_5, ze_107_6, ze_107_9, ze_107_10, ze_107_11, ze_107_12, ze_107_13, ze_107_16, ze_107_19, ze_107_22, ze_107_32, ze_107_33, ze_107_36, ze_107_37, ze_107_40, ze_107_43, ze_107_44, ze_107_47, ze_107_50, ze_107_51, ze_107_52, ze_107_54, ze_107_55, ze_107_58, ze_107_61, ze_107_64, ze_107_65, ze_107_68, ze_107_71, ze_107_72, ze_107_73, ze_107_74, ze_107_75, ze_107_76, ze_107_77, ze_107_78, ze_107_81, ze_107_82, ze_107_85, ze_107_86, ze_107_87, ze_107_88, ze_107_91, ze_107_92, ze_107_93, ze_107_96, ze_107_99, ze_107_102, ze_107_103, ze_107_106, ze_107_109, ze_107_110, ze_107_111, z_k_r, z_push_s, z_push_n, okS_0, okS_I, okS_R, okS_A, List.getElem?_cons_zero, List.getElem?_cons_succ, List.length_cons, List.length_nil, List.set_cons_zero, List.set_cons_succ, true_and, and_true, z_tI, z_tB, pk_mul, nI_add, cI_cl, cI_ix, nar_0, nar_1, nar_b, Nat.reduceAdd, Nat.reduceLT, Nat.reduceMul, ↓xr_0_0, ↓xr_0_1, ↓xr_0_2, ↓xr_0_3, ↓xr_0_4, ↓xr_0_5, ↓xr_0_6, ↓xr_0_7, ↓xr_0_8, ↓xr_0_9, ↓xg_14, xp_14, xo_0, ↓xr_7_0, ↓xg_0, xp_0, ↓xg_1, xp_1, ↓xg_2, xp_2, ↓xg_3, xp_3, ↓xg_4, xp_4, ↓xg_5, xp_5, xo_7, ↓xr_9_0, ↓xr_9_1, ↓xg_6, xp_6, ↓xg_7, xp_7, xo_9, ↓xr_16_0, xo_16, ↓xr_17_0, ↓xr_17_1, ↓xr_17_2, ↓xg_8, xp_8, xo_17, ↓xr_25_0, ↓xr_25_1, ↓xg_9, xp_9, ↓xg_10, xp_10, xo_25, ↓xr_27_0, ↓xr_27_1, ↓xg_11, xp_11, xo_27, ↓xr_29_0, ↓xg_12, xp_12, ↓xg_13, xp_13, xo_29, ↓xr_41_0, ↓xr_41_1, xo_41, xL_8, xS_8, xL_24, xS_24, xL_26, xS_26, xL_28, xS_28, xL_31, xS_31, xL_32, xS_32, xL_33, xS_33, xL_34, xS_34, xL_35, xS_35, xL_36, xS_36, xL_37, xS_37, xL_38, xS_38, xL_39, xS_39, xL_40, xS_40, xL_43, xS_43, xL_44, xS_44, xL_45, xS_45, xL_46, xS_46, xq_30, xq_42, ↓xr_1_0, ↓xr_1_1, ↓xr_1_2, ↓xr_1_3, ↓xr_1_4, ↓xh_1_0, ↓xh_1_1, ↓xh_1_2, ↓xh_1_3, ↓xh_1_4, xo_1, xL_2, xL_3, xL_4, xL_5, xL_6, ↓xr_10_0, ↓xr_10_1, ↓xr_10_2, ↓xr_10_3, ↓xr_10_4, ↓xh_10_0, ↓xh_10_1, ↓xh_10_2, ↓xh_10_3, ↓xh_10_4, xo_10, xL_11, xL_12, xL_13, xL_14, xL_15, ↓xr_18_0, ↓xr_18_1, ↓xr_18_2, ↓xr_18_3, ↓xr_18_4, ↓xh_18_0, ↓xh_18_1, ↓xh_18_2, ↓xh_18_3, ↓xh_18_4, xo_18, xL_19, xL_20, xL_21, xL_22, xL_23, uA_s, uA_n, uG_s, uG_n, ne_eq, Nat.reduceEqDiff, not_false_eq_true, cI_lt, cI_eq, ↓reduceIte, if_true, if_false, Nat.lt_irrefl, eq_self, Nat.reduceEqDiff, or_true, true_or, or_false, false_or, not_false_eq_true, not_true_eq_false, ce_5, zb_t, zb_f]
    rfl
  | k + 1, j, T, h, hC, hc, hA => by
    have hj : j < T.C := by omega
    have e5 := ce_em (hc (r * 5 + j))
    unfold GS.pF
    rw [ze_107_53]
    by_cases e : T.c (r * 5 + j) = 5
    · obtain ⟨a1, a2⟩ := hA j (Nat.le_refl _) hj e
      have pt := fun P => x_put (g := g) (d := d - 1) (f := f) (q := q) (P := P) (B := B) (G := uG G 1 T) (I := I) (A := A) (r := r) (j := j) (s := Q j) hr (by omega) (by omega) (by rw [uG_s]; exact e)
      simp only [uG_s, uG_uG] at pt
      rw [if_pos e]
      simp (disch := omega) only [ze_107_0, ze_107_1, ze_107_2, ze_107_5, ze_107_6, ze_107_9, ze_107_10, ze_107_11, ze_107_12, ze_107_13, ze_107_16, ze_107_19, ze_107_22, ze_107_32, ze_107_33, ze_107_36, ze_107_37, ze_107_40, ze_107_43, ze_107_44, ze_107_47, ze_107_50, ze_107_51, ze_107_52, ze_107_54, ze_107_55, ze_107_58, ze_107_61, ze_107_64, ze_107_65, ze_107_68, ze_107_71, ze_107_72, ze_107_73, ze_107_74, ze_107_75, ze_107_76, ze_107_77, ze_107_78, ze_107_81, ze_107_82, ze_107_85, ze_107_86, ze_107_87, ze_107_88, ze_107_91, ze_107_92, ze_107_93, ze_107_96, ze_107_99, ze_107_102, ze_107_103, ze_107_106, ze_107_109, ze_107_110, ze_107_111, z_k_r, z_push_s, z_push_n, okS_0, okS_I, okS_R, okS_A, List.getElem?_cons_zero, List.getElem?_cons_succ, List.length_cons, List.length_nil, List.set_cons_zero, List.set_cons_succ, true_and, and_true, z_tI, z_tB, pk_mul, nI_add, cI_cl, cI_ix, nar_0, nar_1, nar_b, Nat.reduceAdd, Nat.reduceLT, Nat.reduceMul, ↓xr_0_0, ↓xr_0_1, ↓xr_0_2, ↓xr_0_3, ↓xr_0_4, ↓xr_0_5, ↓xr_0_6, ↓xr_0_7, ↓xr_0_8, ↓xr_0_9, ↓xg_14, xp_14, xo_0, ↓xr_7_0, ↓xg_0, xp_0, ↓xg_1, xp_1, ↓xg_2, xp_2, ↓xg_3, xp_3, ↓xg_4, xp_4, ↓xg_5, xp_5, xo_7, ↓xr_9_0, ↓xr_9_1, ↓xg_6, xp_6, ↓xg_7, xp_7, xo_9, ↓xr_16_0, xo_16, ↓xr_17_0, ↓xr_17_1, ↓xr_17_2, ↓xg_8, xp_8, xo_17, ↓xr_25_0, ↓xr_25_1, ↓xg_9, xp_9, ↓xg_10, xp_10, xo_25, ↓xr_27_0, ↓xr_27_1, ↓xg_11, xp_11, xo_27, ↓xr_29_0, ↓xg_12, xp_12, ↓xg_13, xp_13, xo_29, ↓xr_41_0, ↓xr_41_1, xo_41, xL_8, xS_8, xL_24, xS_24, xL_26, xS_26, xL_28, xS_28, xL_31, xS_31, xL_32, xS_32, xL_33, xS_33, xL_34, xS_34, xL_35, xS_35, xL_36, xS_36, xL_37, xS_37, xL_38, xS_38, xL_39, xS_39, xL_40, xS_40, xL_43, xS_43, xL_44, xS_44, xL_45, xS_45, xL_46, xS_46, xq_30, xq_42, ↓xr_1_0, ↓xr_1_1, ↓xr_1_2, ↓xr_1_3, ↓xr_1_4, ↓xh_1_0, ↓xh_1_1, ↓xh_1_2, ↓xh_1_3, ↓xh_1_4, xo_1, xL_2, xL_3, xL_4, xL_5, xL_6, ↓xr_10_0, ↓xr_10_1, ↓xr_10_2, ↓xr_10_3, ↓xr_10_4, ↓xh_10_0, ↓xh_10_1, ↓xh_10_2, ↓xh_10_3, ↓xh_10_4, xo_10, xL_11, xL_12, xL_13, xL_14, xL_15, ↓xr_18_0, ↓xr_18_1, ↓xr_18_2, ↓xr_18_3, ↓xr_18_4, ↓xh_18_0, ↓xh_18_1, ↓xh_18_2, ↓xh_18_3, ↓xh_18_4, xo_18, xL_19, xL_20, xL_21, xL_22, xL_23, uA_s, uA_n, uG_s, uG_n, ne_eq, Nat.reduceEqDiff, not_false_eq_true, cI_lt, cI_eq, ↓reduceIte, if_true, if_false, Nat.lt_irrefl, eq_self, Nat.reduceEqDiff, or_true, true_or, or_false, false_or, not_false_eq_true, not_true_eq_false, ce_5, zb_t, zb_f, hj, e5, e, a1, hd, pt]
      exact c_fr1 hr hd k (j + 1) (T.put r j (Q j)) (show j + 1 + k = T.C by omega) hC (fun x => by
        show nu T.c (r * 5 + j) (Q j) x ≤ 5
        unfold nu
        split
        · omega
        · exact hc x) (fun i i1 i2 i3 => hA i (by omega) i2 (by
          have : nu T.c (r * 5 + j) (Q j) (r * 5 + i) = 5 := i3
          rw [nu_n (by omega)] at this
          exact this))
    · rw [if_neg e]
      simp (disch := omega) only [ze_107_0, ze_107_1, ze_107_2, ze_107_5, ze_107_6, ze_107_9, ze_107_10, ze_107_11, ze_107_12, ze_107_13, ze_107_16, ze_107_19, ze_107_22, ze_107_32, ze_107_33, ze_107_36, ze_107_37, ze_107_40, ze_107_43, ze_107_44, ze_107_47, ze_107_50, ze_107_51, ze_107_52, ze_107_54, ze_107_55, ze_107_58, ze_107_61, ze_107_64, ze_107_65, ze_107_68, ze_107_71, ze_107_72, ze_107_73, ze_107_74, ze_107_75, ze_107_76, ze_107_77, ze_107_78, ze_107_81, ze_107_82, ze_107_85, ze_107_86, ze_107_87, ze_107_88, ze_107_91, ze_107_92, ze_107_93, ze_107_96, ze_107_99, ze_107_102, ze_107_103, ze_107_106, ze_107_109, ze_107_110, ze_107_111, z_k_r, z_push_s, z_push_n, okS_0, okS_I, okS_R, okS_A, List.getElem?_cons_zero, List.getElem?_cons_succ, List.length_cons, List.length_nil, List.set_cons_zero, List.set_cons_succ, true_and, and_true, z_tI, z_tB, pk_mul, nI_add, cI_cl, cI_ix, nar_0, nar_1, nar_b, Nat.reduceAdd, Nat.reduceLT, Nat.reduceMul, ↓xr_0_0, ↓xr_0_1, ↓xr_0_2, ↓xr_0_3, ↓xr_0_4, ↓xr_0_5, ↓xr_0_6, ↓xr_0_7, ↓xr_0_8, ↓xr_0_9, ↓xg_14, xp_14, xo_0, ↓xr_7_0, ↓xg_0, xp_0, ↓xg_1, xp_1, ↓xg_2, xp_2, ↓xg_3, xp_3, ↓xg_4, xp_4, ↓xg_5, xp_5, xo_7, ↓xr_9_0, ↓xr_9_1, ↓xg_6, xp_6, ↓xg_7, xp_7, xo_9, ↓xr_16_0, xo_16, ↓xr_17_0, ↓xr_17_1, ↓xr_17_2, ↓xg_8, xp_8, xo_17, ↓xr_25_0, ↓xr_25_1, ↓xg_9, xp_9, ↓xg_10, xp_10, xo_25, ↓xr_27_0, ↓xr_27_1, ↓xg_11, xp_11, xo_27, ↓xr_29_0, ↓xg_12, xp_12, ↓xg_13, xp_13, xo_29, ↓xr_41_0, ↓xr_41_1, xo_41, xL_8, xS_8, xL_24, xS_24, xL_26, xS_26, xL_28, xS_28, xL_31, xS_31, xL_32, xS_32, xL_33, xS_33, xL_34, xS_34, xL_35, xS_35, xL_36, xS_36, xL_37, xS_37, xL_38, xS_38, xL_39, xS_39, xL_40, xS_40, xL_43, xS_43, xL_44, xS_44, xL_45, xS_45, xL_46, xS_46, xq_30, xq_42, ↓xr_1_0, ↓xr_1_1, ↓xr_1_2, ↓xr_1_3, ↓xr_1_4, ↓xh_1_0, ↓xh_1_1, ↓xh_1_2, ↓xh_1_3, ↓xh_1_4, xo_1, xL_2, xL_3, xL_4, xL_5, xL_6, ↓xr_10_0, ↓xr_10_1, ↓xr_10_2, ↓xr_10_3, ↓xr_10_4, ↓xh_10_0, ↓xh_10_1, ↓xh_10_2, ↓xh_10_3, ↓xh_10_4, xo_10, xL_11, xL_12, xL_13, xL_14, xL_15, ↓xr_18_0, ↓xr_18_1, ↓xr_18_2, ↓xr_18_3, ↓xr_18_4, ↓xh_18_0, ↓xh_18_1, ↓xh_18_2, ↓xh_18_3, ↓xh_18_4, xo_18, xL_19, xL_20, xL_21, xL_22, xL_23, uA_s, uA_n, uG_s, uG_n, ne_eq, Nat.reduceEqDiff, not_false_eq_true, cI_lt, cI_eq, ↓reduceIte, if_true, if_false, Nat.lt_irrefl, eq_self, Nat.reduceEqDiff, or_true, true_or, or_false, false_or, not_false_eq_true, not_true_eq_false, ce_5, zb_t, zb_f, hj, e5, e, hd]
      exact c_fr1 hr hd k (j + 1) T (by omega) hC hc (fun i i1 i2 i3 => hA i (by omega) i2 i3)
theorem x_place (hg : GI (G 1)) (hd : 3 < d) {x : Int32} : z_Ca g d 21 [.ref (B + 16), .int x] (xw f B G I A, q) P = P (.inr (some (.int (on (kf (G 1).pf x 0 25 0)))), (xw f B G I A, q)) := by
  have hC := hg.C5
  have hR := hg.RC
  have hF : gw (xw f B G I A) (B + 1) (G 1).w (B + 16) = some (.inr (2, [.ref (B + 1)])) := by rw [xj_1]; exact xw_16 f B G I A
  have := s_place (g := g) (q := q) (P := P) hF hg.c5 hC (by omega) hd (x := x)
  rw [xj_1] at this
  exact this
theorem x_sym (hg : GI (G 1)) (hd : 3 < d) {r j : Nat} (hr : r < 5) (hj : j < 5) (hs : (G 1).rs r j ≠ 0) : z_Ca g d 23 [.ref (B + 16), .int (nI r), .int (nI j)] (xw f B G I A, q) P = P (.inr (some (.int (nI ((G 1).fs r j)))), (xw f B G I A, q)) := by
  have hC := hg.C5
  have hR := hg.RC
  have hF : gw (xw f B G I A) (B + 1) (G 1).w (B + 16) = some (.inr (2, [.ref (B + 1)])) := by rw [xj_1]; exact xw_16 f B G I A
  have := s_sym (g := g) (q := q) (P := P) hF hg.c5 hC (by omega) hd hr hj hs
  rw [xj_1] at this
  exact this
theorem c_pg1 {bf : Nat} (hd : 4 < d) : ∀ (k n : Nat) (T : GS) (u v w : Value), n + k = 25 → GI T → z_T g d 106 21 [.ref B, .int (nI bf), .int (nI n), u, v, w] [] (xw f B (uG G 1 T) I A, q) P = P (.inr (some (.int (nI (nF (T.pg k).c 25) - nI bf))), (xw f B (uG G 1 (T.pg k)) I A, q))
  | 0, n, T, u, v, w, h, hg => by
    have : n = 25 := by omega
    subst this
    rw [ze_106_21]
    simp (disch := omega) only [ze_106_0, ze_106_1, ze_106_4, ze_106_5, ze_106_8, ze_106_11, ze_106_12, ze_106_15, ze_106_18, ze_106_19, ze_106_20, ze_106_22, ze_106_24, ze_106_27, ze_106_28, ze_106_31, ze_106_32, ze_106_35, ze_106_36, ze_106_37, ze_106_38, ze_106_41, ze_106_44, ze_106_45, ze_106_46, ze_106_47, ze_106_49, ze_106_50, ze_106_51, ze_106_52, ze_106_54, ze_106_55, ze_106_58, ze_106_60, ze_106_62, ze_106_63, ze_106_66, ze_106_68, ze_106_70, ze_106_73, ze_106_76, ze_106_79, ze_106_82, ze_106_83, ze_106_86, ze_106_89, ze_106_90, ze_106_91, z_k_r, z_push_s, z_push_n, okS_0, okS_I, okS_R, okS_A, List.getElem?_cons_zero, List.getElem?_cons_succ, List.length_cons, List.length_nil, List.set_cons_zero, List.set_cons_succ, true_and, and_true, z_tI, z_tB, pk_mul, nI_add, cI_cl, cI_ix, nar_0, nar_1, nar_b, Nat.reduceAdd, Nat.reduceLT, Nat.reduceMul, ↓xr_0_0, ↓xr_0_1, ↓xr_0_2, ↓xr_0_3, ↓xr_0_4, ↓xr_0_5, ↓xr_0_6, ↓xr_0_7, ↓xr_0_8, ↓xr_0_9, ↓xg_14, xp_14, xo_0, ↓xr_7_0, ↓xg_0, xp_0, ↓xg_1, xp_1, ↓xg_2, xp_2, ↓xg_3, xp_3, ↓xg_4, xp_4, ↓xg_5, xp_5, xo_7, ↓xr_9_0, ↓xr_9_1, ↓xg_6, xp_6, ↓xg_7, xp_7, xo_9, ↓xr_16_0, xo_16, ↓xr_17_0, ↓xr_17_1, ↓xr_17_2, ↓xg_8, xp_8, xo_17, ↓xr_25_0, ↓xr_25_1, ↓xg_9, xp_9, ↓xg_10, xp_10, xo_25, ↓xr_27_0, ↓xr_27_1, ↓xg_11, xp_11, xo_27, ↓xr_29_0, ↓xg_12, xp_12, ↓xg_13, xp_13, xo_29, ↓xr_41_0, ↓xr_41_1, xo_41, xL_8, xS_8, xL_24, xS_24, xL_26, xS_26, xL_28, xS_28, xL_31, xS_31, xL_32, xS_32, xL_33, xS_33, xL_34, xS_34, xL_35, xS_35, xL_36, xS_36, xL_37, xS_37, xL_38, xS_38, xL_39, xS_39, xL_40, xS_40, xL_43, xS_43, xL_44, xS_44, xL_45, xS_45, xL_46, xS_46, xq_30, xq_42, ↓xr_1_0, ↓xr_1_1, ↓xr_1_2, ↓xr_1_3, ↓xr_1_4, ↓xh_1_0, ↓xh_1_1, ↓xh_1_2, ↓xh_1_3, ↓xh_1_4, xo_1, xL_2, xL_3, xL_4, xL_5, xL_6, ↓xr_10_0, ↓xr_10_1, ↓xr_10_2, ↓xr_10_3, ↓xr_10_4, ↓xh_10_0, ↓xh_10_1, ↓xh_10_2, ↓xh_10_3, ↓xh_10_4, xo_10, xL_11, xL_12, xL_13, xL_14, xL_15, ↓xr_18_0, ↓xr_18_1, ↓xr_18_2, ↓xr_18_3, ↓xr_18_4, ↓xh_18_0, ↓xh_18_1, ↓xh_18_2, ↓xh_18_3, ↓xh_18_4, xo_18, xL_19, xL_20, xL_21, xL_22, xL_23, uA_s, uA_n, uG_s, uG_n, ne_eq, Nat.reduceEqDiff, not_false_eq_true, cI_lt, cI_eq, ↓reduceIte, if_true, if_false, Nat.lt_irrefl, eq_self, Nat.reduceEqDiff, or_true, true_or, or_false, false_or, not_false_eq_true, not_true_eq_false, ce_5, zb_t, zb_f]
    rfl
  | k + 1, n, T, u, v, w, h, hg => by
    have hC := hg.C5
    have hR := hg.RC
    have hn : n < 25 := by omega
    have hd0 : 0 < d := by omega
    have pl := fun P => x_place (g := g) (d := d - 1) (f := f) (q := q) (P := P) (B := B) (G := uG G 1 T) (I := I) (A := A) (by rw [uG_s]; exact hg) (by omega) (x := nI 0)
    simp only [uG_s] at pl
    unfold GS.pg
    rw [ze_106_21]
    cases e : kf T.pf (nI 0) 0 25 0 with
    | none =>
      rw [e, show on none = -1 from rfl] at pl
      simp (disch := omega) only [ze_106_0, ze_106_1, ze_106_4, ze_106_5, ze_106_8, ze_106_11, ze_106_12, ze_106_15, ze_106_18, ze_106_19, ze_106_20, ze_106_22, ze_106_24, ze_106_27, ze_106_28, ze_106_31, ze_106_32, ze_106_35, ze_106_36, ze_106_37, ze_106_38, ze_106_41, ze_106_44, ze_106_45, ze_106_46, ze_106_47, ze_106_49, ze_106_50, ze_106_51, ze_106_52, ze_106_54, ze_106_55, ze_106_58, ze_106_60, ze_106_62, ze_106_63, ze_106_66, ze_106_68, ze_106_70, ze_106_73, ze_106_76, ze_106_79, ze_106_82, ze_106_83, ze_106_86, ze_106_89, ze_106_90, ze_106_91, z_k_r, z_push_s, z_push_n, okS_0, okS_I, okS_R, okS_A, List.getElem?_cons_zero, List.getElem?_cons_succ, List.length_cons, List.length_nil, List.set_cons_zero, List.set_cons_succ, true_and, and_true, z_tI, z_tB, pk_mul, nI_add, cI_cl, cI_ix, nar_0, nar_1, nar_b, Nat.reduceAdd, Nat.reduceLT, Nat.reduceMul, ↓xr_0_0, ↓xr_0_1, ↓xr_0_2, ↓xr_0_3, ↓xr_0_4, ↓xr_0_5, ↓xr_0_6, ↓xr_0_7, ↓xr_0_8, ↓xr_0_9, ↓xg_14, xp_14, xo_0, ↓xr_7_0, ↓xg_0, xp_0, ↓xg_1, xp_1, ↓xg_2, xp_2, ↓xg_3, xp_3, ↓xg_4, xp_4, ↓xg_5, xp_5, xo_7, ↓xr_9_0, ↓xr_9_1, ↓xg_6, xp_6, ↓xg_7, xp_7, xo_9, ↓xr_16_0, xo_16, ↓xr_17_0, ↓xr_17_1, ↓xr_17_2, ↓xg_8, xp_8, xo_17, ↓xr_25_0, ↓xr_25_1, ↓xg_9, xp_9, ↓xg_10, xp_10, xo_25, ↓xr_27_0, ↓xr_27_1, ↓xg_11, xp_11, xo_27, ↓xr_29_0, ↓xg_12, xp_12, ↓xg_13, xp_13, xo_29, ↓xr_41_0, ↓xr_41_1, xo_41, xL_8, xS_8, xL_24, xS_24, xL_26, xS_26, xL_28, xS_28, xL_31, xS_31, xL_32, xS_32, xL_33, xS_33, xL_34, xS_34, xL_35, xS_35, xL_36, xS_36, xL_37, xS_37, xL_38, xS_38, xL_39, xS_39, xL_40, xS_40, xL_43, xS_43, xL_44, xS_44, xL_45, xS_45, xL_46, xS_46, xq_30, xq_42, ↓xr_1_0, ↓xr_1_1, ↓xr_1_2, ↓xr_1_3, ↓xr_1_4, ↓xh_1_0, ↓xh_1_1, ↓xh_1_2, ↓xh_1_3, ↓xh_1_4, xo_1, xL_2, xL_3, xL_4, xL_5, xL_6, ↓xr_10_0, ↓xr_10_1, ↓xr_10_2, ↓xr_10_3, ↓xr_10_4, ↓xh_10_0, ↓xh_10_1, ↓xh_10_2, ↓xh_10_3, ↓xh_10_4, xo_10, xL_11, xL_12, xL_13, xL_14, xL_15, ↓xr_18_0, ↓xr_18_1, ↓xr_18_2, ↓xr_18_3, ↓xr_18_4, ↓xh_18_0, ↓xh_18_1, ↓xh_18_2, ↓xh_18_3, ↓xh_18_4, xo_18, xL_19, xL_20, xL_21, xL_22, xL_23, uA_s, uA_n, uG_s, uG_n, ne_eq, Nat.reduceEqDiff, not_false_eq_true, cI_lt, cI_eq, ↓reduceIte, if_true, if_false, Nat.lt_irrefl, eq_self, Nat.reduceEqDiff, or_true, true_or, or_false, false_or, not_false_eq_true, not_true_eq_false, ce_5, zb_t, zb_f, hn, hd0, pl]
    | some i =>
      obtain ⟨k1, k2, k3⟩ := kf_p _ _ _ _ e
      obtain ⟨p1, p2, p3⟩ := pf_sp k1
      have cd := rs_cd p3
      have hs := fs_lt p3
      have em : nI i - nI (i / 5 * 5) = nI (i % 5) := by rw [cI_sub (by omega)]; congr 1; omega
      rw [e, show on (some i) = nI i from rfl] at pl
      have sy := fun P => x_sym (g := g) (d := d - 1) (f := f) (q := q) (P := P) (B := B) (G := uG G 1 T) (I := I) (A := A) (by rw [uG_s]; exact hg) (by omega) (r := i / 5) (j := i % 5) (by omega) (by omega) (by rw [uG_s]; exact p3)
      have pt := fun P => x_put (g := g) (d := d - 1) (f := f) (q := q) (P := P) (B := B) (G := uG G 1 T) (I := I) (A := A) (r := i / 5) (j := i % 5) (s := T.fs (i / 5) (i % 5)) (by omega) (by omega) hs (by rw [uG_s]; exact cd_em cd)
      simp only [uG_s, uG_uG] at pt sy
      simp (disch := omega) only [ze_106_0, ze_106_1, ze_106_4, ze_106_5, ze_106_8, ze_106_11, ze_106_12, ze_106_15, ze_106_18, ze_106_19, ze_106_20, ze_106_22, ze_106_24, ze_106_27, ze_106_28, ze_106_31, ze_106_32, ze_106_35, ze_106_36, ze_106_37, ze_106_38, ze_106_41, ze_106_44, ze_106_45, ze_106_46, ze_106_47, ze_106_49, ze_106_50, ze_106_51, ze_106_52, ze_106_54, ze_106_55, ze_106_58, ze_106_60, ze_106_62, ze_106_63, ze_106_66, ze_106_68, ze_106_70, ze_106_73, ze_106_76, ze_106_79, ze_106_82, ze_106_83, ze_106_86, ze_106_89, ze_106_90, ze_106_91, z_k_r, z_push_s, z_push_n, okS_0, okS_I, okS_R, okS_A, List.getElem?_cons_zero, List.getElem?_cons_succ, List.length_cons, List.length_nil, List.set_cons_zero, List.set_cons_succ, true_and, and_true, z_tI, z_tB, pk_mul, nI_add, cI_cl, cI_ix, nar_0, nar_1, nar_b, Nat.reduceAdd, Nat.reduceLT, Nat.reduceMul, ↓xr_0_0, ↓xr_0_1, ↓xr_0_2, ↓xr_0_3, ↓xr_0_4, ↓xr_0_5, ↓xr_0_6, ↓xr_0_7, ↓xr_0_8, ↓xr_0_9, ↓xg_14, xp_14, xo_0, ↓xr_7_0, ↓xg_0, xp_0, ↓xg_1, xp_1, ↓xg_2, xp_2, ↓xg_3, xp_3, ↓xg_4, xp_4, ↓xg_5, xp_5, xo_7, ↓xr_9_0, ↓xr_9_1, ↓xg_6, xp_6, ↓xg_7, xp_7, xo_9, ↓xr_16_0, xo_16, ↓xr_17_0, ↓xr_17_1, ↓xr_17_2, ↓xg_8, xp_8, xo_17, ↓xr_25_0, ↓xr_25_1, ↓xg_9, xp_9, ↓xg_10, xp_10, xo_25, ↓xr_27_0, ↓xr_27_1, ↓xg_11, xp_11, xo_27, ↓xr_29_0, ↓xg_12, xp_12, ↓xg_13, xp_13, xo_29, ↓xr_41_0, ↓xr_41_1, xo_41, xL_8, xS_8, xL_24, xS_24, xL_26, xS_26, xL_28, xS_28, xL_31, xS_31, xL_32, xS_32, xL_33, xS_33, xL_34, xS_34, xL_35, xS_35, xL_36, xS_36, xL_37, xS_37, xL_38, xS_38, xL_39, xS_39, xL_40, xS_40, xL_43, xS_43, xL_44, xS_44, xL_45, xS_45, xL_46, xS_46, xq_30, xq_42, ↓xr_1_0, ↓xr_1_1, ↓xr_1_2, ↓xr_1_3, ↓xr_1_4, ↓xh_1_0, ↓xh_1_1, ↓xh_1_2, ↓xh_1_3, ↓xh_1_4, xo_1, xL_2, xL_3, xL_4, xL_5, xL_6, ↓xr_10_0, ↓xr_10_1, ↓xr_10_2, ↓xr_10_3, ↓xr_10_4, ↓xh_10_0, ↓xh_10_1, ↓xh_10_2, ↓xh_10_3, ↓xh_10_4, xo_10, xL_11, xL_12, xL_13, xL_14, xL_15, ↓xr_18_0, ↓xr_18_1, ↓xr_18_2, ↓xr_18_3, ↓xr_18_4, ↓xh_18_0, ↓xh_18_1, ↓xh_18_2, ↓xh_18_3, ↓xh_18_4, xo_18, xL_19, xL_20, xL_21, xL_22, xL_23, uA_s, uA_n, uG_s, uG_n, ne_eq, Nat.reduceEqDiff, not_false_eq_true, cI_lt, cI_eq, ↓reduceIte, if_true, if_false, Nat.lt_irrefl, eq_self, Nat.reduceEqDiff, or_true, true_or, or_false, false_or, not_false_eq_true, not_true_eq_false, ce_5, zb_t, zb_f, hn, hd0, pl, on_m1, cI_div, em, sy, pt]
      exact c_pg1 hd k (n + 1) _ _ _ _ (by omega) (GI_put hg p1 p2 cd)
end
section
variable {g : z_G} {d : Nat} {f : Nat → Option z_C} {q : Option Nat × Nat × Nat} {P : z_Res → Prop} {m : Nat} {I : Nat → Int32} {A : Nat → Nat → Int32} {S : GS}
theorem m_pg1 (hd : 5 < d) : ∀ (k n : Nat) (S : GS) (A : Nat → Nat → Int32), MH I A S → GI S → 25 ≤ nF S.c 25 + k → ∃ F, (∀ j, j < 25 → F j = ce ((S.pg k).c j)) ∧ ∀ (q : Option Nat × Nat × Nat) (P : z_Res → Prop), z_T g d 191 17 [.ref m, .int (nI n), .int (on (kf S.pf (nI 0) 0 25 0))] [] (mw f m I A, q) P = P (.inr (some (.int (nI (n + S.pgN k)))), (mw f m I (uA A 5 F), q))
  | 0, n, S, A, hM, hg, h => by
    refine ⟨A 5, hM.2.2.1, fun q P => ?_⟩
    rw [pg_none (by omega), show on none = -1 from rfl, uA_id, ze_191_17]
    simp (disch := omega) only [ze_191_0, ze_191_1, ze_191_2, ze_191_5, ze_191_6, ze_191_9, ze_191_10, ze_191_11, ze_191_12, ze_191_13, ze_191_16, ze_191_18, ze_191_19, ze_191_22, ze_191_23, ze_191_26, ze_191_27, ze_191_28, ze_191_29, ze_191_30, ze_191_31, ze_191_32, ze_191_33, ze_191_34, ze_191_37, ze_191_39, ze_191_40, ze_191_41, ze_191_44, ze_191_45, ze_191_46, ze_191_49, ze_191_50, ze_191_53, ze_191_54, z_k_r, z_push_s, z_push_n, okS_0, okS_I, okS_R, okS_A, List.getElem?_cons_zero, List.getElem?_cons_succ, List.length_cons, List.length_nil, List.set_cons_zero, List.set_cons_succ, true_and, and_true, z_tI, z_tB, pk_mul, nI_add, cI_cl, cI_ix, nar_0, nar_1, nar_b, Nat.reduceAdd, Nat.reduceLT, Nat.reduceMul, ↓mg_0, ↓mg_1, ↓mg_2, ↓mg_3, ↓mg_4, ↓mg_5, ↓mg_6, ↓mg_7, ↓mg_8, ↓mg_9, ↓mg_10, ↓mg_11, ↓mg_12, ↓mg_13, ↓mg_14, ↓mg_15, ↓mg_16, ↓mg_17, ↓mg_18, ↓mg_19, ↓mg_20, ↓mg_21, ↓mg_22, ↓mg_23, ↓mg_24, ↓mg_25, ↓mg_26, ↓mg_27, ↓mg_28, mp_0, mp_1, mp_2, mp_3, mp_4, mp_5, mp_6, mp_13, mp_14, mp_15, mp_16, mp_17, mp_18, mp_19, mp_20, mp_21, mp_23, mL_1, mL_2, mL_3, mL_4, mL_5, mL_6, mL_7, mL_8, mL_9, mL_10, mL_11, mL_12, mS_1, mS_2, mS_3, mS_4, mS_5, mS_6, mS_7, mS_8, mS_9, mS_10, mS_11, mS_12, m_gO, uA_s, uA_n, cI_lt, cI_eq, ↓reduceIte, if_true, if_false, Nat.lt_irrefl, eq_self, Nat.reduceEqDiff, or_true, true_or, or_false, false_or, not_false_eq_true, not_true_eq_false, ce_5, zb_t, zb_f]
    rfl
  | k + 1, n, S, A, hM, hg, h => by
    have hC := hg.C5
    have hR := hg.RC
    have hd0 : 0 < d := by omega
    cases e : kf S.pf (nI 0) 0 25 0 with
    | none =>
      refine ⟨A 5, fun j hj => ?_, fun q P => ?_⟩
      · unfold GS.pg
        rw [e]
        exact hM.2.2.1 j hj
      · unfold GS.pgN
        rw [e, show on none = -1 from rfl, uA_id, ze_191_17]
        simp (disch := omega) only [ze_191_0, ze_191_1, ze_191_2, ze_191_5, ze_191_6, ze_191_9, ze_191_10, ze_191_11, ze_191_12, ze_191_13, ze_191_16, ze_191_18, ze_191_19, ze_191_22, ze_191_23, ze_191_26, ze_191_27, ze_191_28, ze_191_29, ze_191_30, ze_191_31, ze_191_32, ze_191_33, ze_191_34, ze_191_37, ze_191_39, ze_191_40, ze_191_41, ze_191_44, ze_191_45, ze_191_46, ze_191_49, ze_191_50, ze_191_53, ze_191_54, z_k_r, z_push_s, z_push_n, okS_0, okS_I, okS_R, okS_A, List.getElem?_cons_zero, List.getElem?_cons_succ, List.length_cons, List.length_nil, List.set_cons_zero, List.set_cons_succ, true_and, and_true, z_tI, z_tB, pk_mul, nI_add, cI_cl, cI_ix, nar_0, nar_1, nar_b, Nat.reduceAdd, Nat.reduceLT, Nat.reduceMul, ↓mg_0, ↓mg_1, ↓mg_2, ↓mg_3, ↓mg_4, ↓mg_5, ↓mg_6, ↓mg_7, ↓mg_8, ↓mg_9, ↓mg_10, ↓mg_11, ↓mg_12, ↓mg_13, ↓mg_14, ↓mg_15, ↓mg_16, ↓mg_17, ↓mg_18, ↓mg_19, ↓mg_20, ↓mg_21, ↓mg_22, ↓mg_23, ↓mg_24, ↓mg_25, ↓mg_26, ↓mg_27, ↓mg_28, mp_0, mp_1, mp_2, mp_3, mp_4, mp_5, mp_6, mp_13, mp_14, mp_15, mp_16, mp_17, mp_18, mp_19, mp_20, mp_21, mp_23, mL_1, mL_2, mL_3, mL_4, mL_5, mL_6, mL_7, mL_8, mL_9, mL_10, mL_11, mL_12, mS_1, mS_2, mS_3, mS_4, mS_5, mS_6, mS_7, mS_8, mS_9, mS_10, mS_11, mS_12, m_gO, uA_s, uA_n, cI_lt, cI_eq, ↓reduceIte, if_true, if_false, Nat.lt_irrefl, eq_self, Nat.reduceEqDiff, or_true, true_or, or_false, false_or, not_false_eq_true, not_true_eq_false, ce_5, zb_t, zb_f]
        rfl
    | some i =>
      obtain ⟨k1, k2, k3⟩ := kf_p _ _ _ _ e
      obtain ⟨p1, p2, p3⟩ := pf_sp k1
      have cd := rs_cd p3
      have hs := fs_lt p3
      have h4 := rs_lt (S := S) (i / 5) (i % 5)
      have em : nI i - nI (i / 5 * 5) = nI (i % 5) := by rw [cI_sub (by omega)]; congr 1; omega
      have fe : S.ft (i / 5) (i % 5) = 8 * S.fs (i / 5) (i % 5) + S.rs (i / 5) (i % 5) := if_neg p3
      have fd : S.ft (i / 5) (i % 5) / 8 = S.fs (i / 5) (i % 5) := by omega
      have mp := MH_put hM (r := i / 5) (j := i % 5) (s := S.fs (i / 5) (i % 5)) (by omega)
      rw [k_split] at mp
      have gp := GI_put hg p1 p2 cd
      have np : nF (S.put (i / 5) (i % 5) (S.fs (i / 5) (i % 5))).c 25 = nF S.c 25 + 1 := nF_put S.c (by omega) (cd_em cd) 25 (by omega)
      obtain ⟨F, f1, f2⟩ := m_pg1 hd k (n + 1) (S.put (i / 5) (i % 5) (S.fs (i / 5) (i % 5))) _ mp gp (by omega)
      simp only [uA_uA] at f2
      have ft1 : S.ft (i / 5) (i % 5) < 100 := ft_lt _ _
      refine ⟨F, fun j hj => ?_, fun q P => ?_⟩
      · unfold GS.pg
        rw [e]
        exact f1 j hj
      · unfold GS.pgN
        rw [e, show on (some i) = nI i from rfl]
        show _ = P (.inr (some (.int (nI (n + (1 + (S.put (i / 5) (i % 5) (S.fs (i / 5) (i % 5))).pgN k))))), (mw f m I (uA A 5 F), q))
        rw [← Nat.add_assoc, ← f2 q P, ze_191_17]
        simp (disch := omega) only [ze_191_0, ze_191_1, ze_191_2, ze_191_5, ze_191_6, ze_191_9, ze_191_10, ze_191_11, ze_191_12, ze_191_13, ze_191_16, ze_191_18, ze_191_19, ze_191_22, ze_191_23, ze_191_26, ze_191_27, ze_191_28, ze_191_29, ze_191_30, ze_191_31, ze_191_32, ze_191_33, ze_191_34, ze_191_37, ze_191_39, ze_191_40, ze_191_41, ze_191_44, ze_191_45, ze_191_46, ze_191_49, ze_191_50, ze_191_53, ze_191_54, z_k_r, z_push_s, z_push_n, okS_0, okS_I, okS_R, okS_A, List.getElem?_cons_zero, List.getElem?_cons_succ, List.length_cons, List.length_nil, List.set_cons_zero, List.set_cons_succ, true_and, and_true, z_tI, z_tB, pk_mul, nI_add, cI_cl, cI_ix, nar_0, nar_1, nar_b, Nat.reduceAdd, Nat.reduceLT, Nat.reduceMul, ↓mg_0, ↓mg_1, ↓mg_2, ↓mg_3, ↓mg_4, ↓mg_5, ↓mg_6, ↓mg_7, ↓mg_8, ↓mg_9, ↓mg_10, ↓mg_11, ↓mg_12, ↓mg_13, ↓mg_14, ↓mg_15, ↓mg_16, ↓mg_17, ↓mg_18, ↓mg_19, ↓mg_20, ↓mg_21, ↓mg_22, ↓mg_23, ↓mg_24, ↓mg_25, ↓mg_26, ↓mg_27, ↓mg_28, mp_0, mp_1, mp_2, mp_3, mp_4, mp_5, mp_6, mp_13, mp_14, mp_15, mp_16, mp_17, mp_18, mp_19, mp_20, mp_21, mp_23, mL_1, mL_2, mL_3, mL_4, mL_5, mL_6, mL_7, mL_8, mL_9, mL_10, mL_11, mL_12, mS_1, mS_2, mS_3, mS_4, mS_5, mS_6, mS_7, mS_8, mS_9, mS_10, mS_11, mS_12, m_gO, uA_s, uA_n, cI_lt, cI_eq, ↓reduceIte, if_true, if_false, Nat.lt_irrefl, eq_self, Nat.reduceEqDiff, or_true, true_or, or_false, false_or, not_false_eq_true, not_true_eq_false, ce_5, zb_t, zb_f, on_m1, cI_div, em, m_forcedTo hM hg, hd0, fd, m_place mp gp]
theorem m_fl1 {r : Nat} : ∀ (k d j : Nat) (S : GS) (A : Nat → Nat → Int32) (fr : Int32) (v w : Value), MH I A S → GI S → r < S.R → j + k = S.C → k + 5 < d → ∃ F, ((∀ T, S.fR r k j = some T → ∀ x, x < 25 → F x = ce (T.c x)) ∧ (S.fR r k j = none → F = A 5)) ∧ ∀ (q : Option Nat × Nat × Nat) (P : z_Res → Prop), z_T g d 192 2 [.ref m, .int (nI r), .int fr, .int (nI j), v, w] [] (mw f m I A, q) P = P (.inr (some (.int (zb (oG (S.fR r k j))))), (mw f m I (uA A 5 F), q))
  | 0, d, j, S, A, fr, v, w, hM, hg, hr, h, hd => by
    have hC := hg.C5
    have h2 := hM.2.1
    have : j = S.C := by omega
    subst this
    refine ⟨A 5, ⟨fun T hT x hx => ?_, fun hT => rfl⟩, fun q P => ?_⟩
    · unfold GS.fR at hT
      cases hT
      exact hM.2.2.1 x hx
    · rw [uA_id, ze_192_2]
      simp (disch := omega) only [ze_192_0, ze_192_1, ze_192_3, ze_192_4, ze_192_7, ze_192_10, ze_192_11, ze_192_12, ze_192_13, ze_192_16, ze_192_17, ze_192_20, ze_192_23, ze_192_26, ze_192_27, ze_192_28, ze_192_31, ze_192_34, ze_192_35, ze_192_36, ze_192_37, ze_192_38, ze_192_39, ze_192_42, ze_192_44, ze_192_45, ze_192_49, ze_192_50, ze_192_53, ze_192_56, ze_192_58, ze_192_60, ze_192_61, ze_192_62, ze_192_63, ze_192_66, ze_192_69, ze_192_70, ze_192_73, ze_192_74, ze_192_75, ze_192_78, ze_192_80, ze_192_81, ze_192_82, ze_192_83, ze_192_84, ze_192_85, ze_192_86, ze_192_89, ze_192_92, ze_192_93, ze_192_94, ze_192_95, ze_192_98, ze_192_99, ze_192_100, ze_192_103, ze_192_104, ze_192_105, ze_192_108, ze_192_111, ze_192_112, z_k_r, z_push_s, z_push_n, okS_0, okS_I, okS_R, okS_A, List.getElem?_cons_zero, List.getElem?_cons_succ, List.length_cons, List.length_nil, List.set_cons_zero, List.set_cons_succ, true_and, and_true, z_tI, z_tB, pk_mul, nI_add, cI_cl, cI_ix, nar_0, nar_1, nar_b, Nat.reduceAdd, Nat.reduceLT, Nat.reduceMul, ↓mg_0, ↓mg_1, ↓mg_2, ↓mg_3, ↓mg_4, ↓mg_5, ↓mg_6, ↓mg_7, ↓mg_8, ↓mg_9, ↓mg_10, ↓mg_11, ↓mg_12, ↓mg_13, ↓mg_14, ↓mg_15, ↓mg_16, ↓mg_17, ↓mg_18, ↓mg_19, ↓mg_20, ↓mg_21, ↓mg_22, ↓mg_23, ↓mg_24, ↓mg_25, ↓mg_26, ↓mg_27, ↓mg_28, mp_0, mp_1, mp_2, mp_3, mp_4, mp_5, mp_6, mp_13, mp_14, mp_15, mp_16, mp_17, mp_18, mp_19, mp_20, mp_21, mp_23, mL_1, mL_2, mL_3, mL_4, mL_5, mL_6, mL_7, mL_8, mL_9, mL_10, mL_11, mL_12, mS_1, mS_2, mS_3, mS_4, mS_5, mS_6, mS_7, mS_8, mS_9, mS_10, mS_11, mS_12, m_gO, uA_s, uA_n, cI_lt, cI_eq, ↓reduceIte, if_true, if_false, Nat.lt_irrefl, eq_self, Nat.reduceEqDiff, or_true, true_or, or_false, false_or, not_false_eq_true, not_true_eq_false, ce_5, zb_t, zb_f, h2]
      rfl
  | k + 1, d, j, S, A, fr, v, w, hM, hg, hr, h, hd => by
    have hC := hg.C5
    have hR := hg.RC
    have h2 := hM.2.1
    have hj : j < S.C := by omega
    have hj2 : ¬ j = S.C := by omega
    have hd0 : 0 < d := by omega
    have e5 := ce_em (hg.c5 (r * 5 + j))
    by_cases e : S.c (r * 5 + j) = 5
    · have m1 : A 5 (r * 5 + j) = -1 := by rw [hM.2.2.1 _ (by omega), e]; rfl
      have loop : ∀ (n s : Nat), s + n = S.C → ∃ F, ((∀ T, fsO (fun s => if S.cd r j s = true then (S.put r j s).fR r k (j + 1) else none) s n = some T → ∀ x, x < 25 → F x = ce (T.c x)) ∧ (fsO (fun s => if S.cd r j s = true then (S.put r j s).fR r k (j + 1) else none) s n = none → F = A 5)) ∧ ∀ (q : Option Nat × Nat × Nat) (P : z_Res → Prop), z_T g d 192 47 [.ref m, .int (nI r), .int fr, .int (nI j), .int (sS (S.cd r j)), .int (nI s)] [] (mw f m I A, q) P = P (.inr (some (.int (zb (oG (fsO (fun s => if S.cd r j s = true then (S.put r j s).fR r k (j + 1) else none) s n))))), (mw f m I (uA A 5 F), q)) := by
        intro n
        induction n with
        | zero =>
          intro s hs
          have : s = S.C := by omega
          subst this
          refine ⟨A 5, ⟨fun T hT => (by cases hT), fun _ => rfl⟩, fun q P => ?_⟩
          rw [uA_id, ze_192_47]
          simp (disch := omega) only [ze_192_0, ze_192_1, ze_192_3, ze_192_4, ze_192_7, ze_192_10, ze_192_11, ze_192_12, ze_192_13, ze_192_16, ze_192_17, ze_192_20, ze_192_23, ze_192_26, ze_192_27, ze_192_28, ze_192_31, ze_192_34, ze_192_35, ze_192_36, ze_192_37, ze_192_38, ze_192_39, ze_192_42, ze_192_44, ze_192_45, ze_192_49, ze_192_50, ze_192_53, ze_192_56, ze_192_58, ze_192_60, ze_192_61, ze_192_62, ze_192_63, ze_192_66, ze_192_69, ze_192_70, ze_192_73, ze_192_74, ze_192_75, ze_192_78, ze_192_80, ze_192_81, ze_192_82, ze_192_83, ze_192_84, ze_192_85, ze_192_86, ze_192_89, ze_192_92, ze_192_93, ze_192_94, ze_192_95, ze_192_98, ze_192_99, ze_192_100, ze_192_103, ze_192_104, ze_192_105, ze_192_108, ze_192_111, ze_192_112, z_k_r, z_push_s, z_push_n, okS_0, okS_I, okS_R, okS_A, List.getElem?_cons_zero, List.getElem?_cons_succ, List.length_cons, List.length_nil, List.set_cons_zero, List.set_cons_succ, true_and, and_true, z_tI, z_tB, pk_mul, nI_add, cI_cl, cI_ix, nar_0, nar_1, nar_b, Nat.reduceAdd, Nat.reduceLT, Nat.reduceMul, ↓mg_0, ↓mg_1, ↓mg_2, ↓mg_3, ↓mg_4, ↓mg_5, ↓mg_6, ↓mg_7, ↓mg_8, ↓mg_9, ↓mg_10, ↓mg_11, ↓mg_12, ↓mg_13, ↓mg_14, ↓mg_15, ↓mg_16, ↓mg_17, ↓mg_18, ↓mg_19, ↓mg_20, ↓mg_21, ↓mg_22, ↓mg_23, ↓mg_24, ↓mg_25, ↓mg_26, ↓mg_27, ↓mg_28, mp_0, mp_1, mp_2, mp_3, mp_4, mp_5, mp_6, mp_13, mp_14, mp_15, mp_16, mp_17, mp_18, mp_19, mp_20, mp_21, mp_23, mL_1, mL_2, mL_3, mL_4, mL_5, mL_6, mL_7, mL_8, mL_9, mL_10, mL_11, mL_12, mS_1, mS_2, mS_3, mS_4, mS_5, mS_6, mS_7, mS_8, mS_9, mS_10, mS_11, mS_12, m_gO, uA_s, uA_n, cI_lt, cI_eq, ↓reduceIte, if_true, if_false, Nat.lt_irrefl, eq_self, Nat.reduceEqDiff, or_true, true_or, or_false, false_or, not_false_eq_true, not_true_eq_false, ce_5, zb_t, zb_f, h2]
          rfl
        | succ n ih =>
          intro s hs
          have s5 : s < S.C := by omega
          obtain ⟨F2, c1, c2⟩ := ih (s + 1) (by omega)
          by_cases z : S.cd r j s = true
          · have mp := MH_put hM (r := r) (j := j) (s := s) (by omega)
            obtain ⟨F1, ⟨a1, a2⟩, a3⟩ := m_fl1 (r := r) k (d - 1) (j + 1) (S.put r j s) _ (nI (j + 1)) z_un z_un mp (GI_put hg hr hj z) hr (show j + 1 + k = S.C by omega) (by omega)
            have call : ∀ (q : Option Nat × Nat × Nat) (P : z_Res → Prop), z_Ca g (d - 1) 192 [.ref m, .int (nI r), .int (nI (j + 1))] (mw f m I (uA A 5 (upd (A 5) (r * 5 + j) (nI s))), q) P = P (.inr (some (.int (zb (oG ((S.put r j s).fR r k (j + 1)))))), (mw f m I (uA A 5 F1), q)) := fun q P => by
              rw [uA_uA] at a3
              rw [← a3 q P, zn_192]
              simp (disch := omega) only [ze_192_0, ze_192_1, ze_192_3, ze_192_4, ze_192_7, ze_192_10, ze_192_11, ze_192_12, ze_192_13, ze_192_16, ze_192_17, ze_192_20, ze_192_23, ze_192_26, ze_192_27, ze_192_28, ze_192_31, ze_192_34, ze_192_35, ze_192_36, ze_192_37, ze_192_38, ze_192_39, ze_192_42, ze_192_44, ze_192_45, ze_192_47, ze_192_49, ze_192_50, ze_192_53, ze_192_56, ze_192_58, ze_192_60, ze_192_61, ze_192_62, ze_192_63, ze_192_66, ze_192_69, ze_192_70, ze_192_73, ze_192_74, ze_192_75, ze_192_78, ze_192_80, ze_192_81, ze_192_82, ze_192_83, ze_192_84, ze_192_85, ze_192_86, ze_192_89, ze_192_92, ze_192_93, ze_192_94, ze_192_95, ze_192_98, ze_192_99, ze_192_100, ze_192_103, ze_192_104, ze_192_105, ze_192_108, ze_192_111, ze_192_112, z_k_r, z_push_s, z_push_n, okS_0, okS_I, okS_R, okS_A, List.getElem?_cons_zero, List.getElem?_cons_succ, List.length_cons, List.length_nil, List.set_cons_zero, List.set_cons_succ, true_and, and_true, z_tI, z_tB, pk_mul, nI_add, cI_cl, cI_ix, nar_0, nar_1, nar_b, Nat.reduceAdd, Nat.reduceLT, Nat.reduceMul]
            cases o : (S.put r j s).fR r k (j + 1) with
            | some T =>
              have fo : fsO (fun s => if S.cd r j s = true then (S.put r j s).fR r k (j + 1) else none) s (n + 1) = some T := fsO_s (by rw [if_pos z, o])
              rw [fo]
              rw [o] at call
              refine ⟨F1, ⟨fun T' hT x hx => (by cases hT; exact a1 T o x hx), fun hT => (by cases hT)⟩, fun q P => ?_⟩
              rw [ze_192_47]
              simp (disch := omega) only [ze_192_0, ze_192_1, ze_192_3, ze_192_4, ze_192_7, ze_192_10, ze_192_11, ze_192_12, ze_192_13, ze_192_16, ze_192_17, ze_192_20, ze_192_23, ze_192_26, ze_192_27, ze_192_28, ze_192_31, ze_192_34, ze_192_35, ze_192_36, ze_192_37, ze_192_38, ze_192_39, ze_192_42, ze_192_44, ze_192_45, ze_192_49, ze_192_50, ze_192_53, ze_192_56, ze_192_58, ze_192_60, ze_192_61, ze_192_62, ze_192_63, ze_192_66, ze_192_69, ze_192_70, ze_192_73, ze_192_74, ze_192_75, ze_192_78, ze_192_80, ze_192_81, ze_192_82, ze_192_83, ze_192_84, ze_192_85, ze_192_86, ze_192_89, ze_192_92, ze_192_93, ze_192_94, ze_192_95, ze_192_98, ze_192_99, ze_192_100, ze_192_103, ze_192_104, ze_192_105, ze_192_108, ze_192_111, ze_192_112, z_k_r, z_push_s, z_push_n, okS_0, okS_I, okS_R, okS_A, List.getElem?_cons_zero, List.getElem?_cons_succ, List.length_cons, List.length_nil, List.set_cons_zero, List.set_cons_succ, true_and, and_true, z_tI, z_tB, pk_mul, nI_add, cI_cl, cI_ix, nar_0, nar_1, nar_b, Nat.reduceAdd, Nat.reduceLT, Nat.reduceMul, ↓mg_0, ↓mg_1, ↓mg_2, ↓mg_3, ↓mg_4, ↓mg_5, ↓mg_6, ↓mg_7, ↓mg_8, ↓mg_9, ↓mg_10, ↓mg_11, ↓mg_12, ↓mg_13, ↓mg_14, ↓mg_15, ↓mg_16, ↓mg_17, ↓mg_18, ↓mg_19, ↓mg_20, ↓mg_21, ↓mg_22, ↓mg_23, ↓mg_24, ↓mg_25, ↓mg_26, ↓mg_27, ↓mg_28, mp_0, mp_1, mp_2, mp_3, mp_4, mp_5, mp_6, mp_13, mp_14, mp_15, mp_16, mp_17, mp_18, mp_19, mp_20, mp_21, mp_23, mL_1, mL_2, mL_3, mL_4, mL_5, mL_6, mL_7, mL_8, mL_9, mL_10, mL_11, mL_12, mS_1, mS_2, mS_3, mS_4, mS_5, mS_6, mS_7, mS_8, mS_9, mS_10, mS_11, mS_12, m_gO, uA_s, uA_n, cI_lt, cI_eq, ↓reduceIte, if_true, if_false, Nat.lt_irrefl, eq_self, Nat.reduceEqDiff, or_true, true_or, or_false, false_or, not_false_eq_true, not_true_eq_false, ce_5, zb_t, zb_f, h2, s5, sS_bit, zb_0, z, Bool.true_eq_false, m_cell, hd0, call, oG]
            | none =>
              have fo : fsO (fun s => if S.cd r j s = true then (S.put r j s).fR r k (j + 1) else none) s (n + 1) = fsO (fun s => if S.cd r j s = true then (S.put r j s).fR r k (j + 1) else none) (s + 1) n := fsO_n (by rw [if_pos z, o])
              rw [fo]
              rw [o] at call
              refine ⟨F2, c1, fun q P => ?_⟩
              have b1 : F1 = upd (A 5) (r * 5 + j) (nI s) := by rw [a2 o, uA_s]
              rw [← c2 q P, ze_192_47]
              simp (disch := omega) only [ze_192_0, ze_192_1, ze_192_3, ze_192_4, ze_192_7, ze_192_10, ze_192_11, ze_192_12, ze_192_13, ze_192_16, ze_192_17, ze_192_20, ze_192_23, ze_192_26, ze_192_27, ze_192_28, ze_192_31, ze_192_34, ze_192_35, ze_192_36, ze_192_37, ze_192_38, ze_192_39, ze_192_42, ze_192_44, ze_192_45, ze_192_49, ze_192_50, ze_192_53, ze_192_56, ze_192_58, ze_192_60, ze_192_61, ze_192_62, ze_192_63, ze_192_66, ze_192_69, ze_192_70, ze_192_73, ze_192_74, ze_192_75, ze_192_78, ze_192_80, ze_192_81, ze_192_82, ze_192_83, ze_192_84, ze_192_85, ze_192_86, ze_192_89, ze_192_92, ze_192_93, ze_192_94, ze_192_95, ze_192_98, ze_192_99, ze_192_100, ze_192_103, ze_192_104, ze_192_105, ze_192_108, ze_192_111, ze_192_112, z_k_r, z_push_s, z_push_n, okS_0, okS_I, okS_R, okS_A, List.getElem?_cons_zero, List.getElem?_cons_succ, List.length_cons, List.length_nil, List.set_cons_zero, List.set_cons_succ, true_and, and_true, z_tI, z_tB, pk_mul, nI_add, cI_cl, cI_ix, nar_0, nar_1, nar_b, Nat.reduceAdd, Nat.reduceLT, Nat.reduceMul, ↓mg_0, ↓mg_1, ↓mg_2, ↓mg_3, ↓mg_4, ↓mg_5, ↓mg_6, ↓mg_7, ↓mg_8, ↓mg_9, ↓mg_10, ↓mg_11, ↓mg_12, ↓mg_13, ↓mg_14, ↓mg_15, ↓mg_16, ↓mg_17, ↓mg_18, ↓mg_19, ↓mg_20, ↓mg_21, ↓mg_22, ↓mg_23, ↓mg_24, ↓mg_25, ↓mg_26, ↓mg_27, ↓mg_28, mp_0, mp_1, mp_2, mp_3, mp_4, mp_5, mp_6, mp_13, mp_14, mp_15, mp_16, mp_17, mp_18, mp_19, mp_20, mp_21, mp_23, mL_1, mL_2, mL_3, mL_4, mL_5, mL_6, mL_7, mL_8, mL_9, mL_10, mL_11, mL_12, mS_1, mS_2, mS_3, mS_4, mS_5, mS_6, mS_7, mS_8, mS_9, mS_10, mS_11, mS_12, m_gO, uA_s, uA_n, cI_lt, cI_eq, ↓reduceIte, if_true, if_false, Nat.lt_irrefl, eq_self, Nat.reduceEqDiff, or_true, true_or, or_false, false_or, not_false_eq_true, not_true_eq_false, ce_5, zb_t, zb_f, h2, s5, sS_bit, zb_0, z, Bool.true_eq_false, m_cell, hd0, call, oG, uA_uA]
              rw [b1, upd_m1 m1, uA_id]
          · have z' : S.cd r j s = false := by simpa using z
            have fo : fsO (fun s => if S.cd r j s = true then (S.put r j s).fR r k (j + 1) else none) s (n + 1) = fsO (fun s => if S.cd r j s = true then (S.put r j s).fR r k (j + 1) else none) (s + 1) n := fsO_n (by rw [if_neg z])
            rw [fo]
            refine ⟨F2, c1, fun q P => ?_⟩
            rw [← c2 q P, ze_192_47]
            simp (disch := omega) only [ze_192_0, ze_192_1, ze_192_3, ze_192_4, ze_192_7, ze_192_10, ze_192_11, ze_192_12, ze_192_13, ze_192_16, ze_192_17, ze_192_20, ze_192_23, ze_192_26, ze_192_27, ze_192_28, ze_192_31, ze_192_34, ze_192_35, ze_192_36, ze_192_37, ze_192_38, ze_192_39, ze_192_42, ze_192_44, ze_192_45, ze_192_49, ze_192_50, ze_192_53, ze_192_56, ze_192_58, ze_192_60, ze_192_61, ze_192_62, ze_192_63, ze_192_66, ze_192_69, ze_192_70, ze_192_73, ze_192_74, ze_192_75, ze_192_78, ze_192_80, ze_192_81, ze_192_82, ze_192_83, ze_192_84, ze_192_85, ze_192_86, ze_192_89, ze_192_92, ze_192_93, ze_192_94, ze_192_95, ze_192_98, ze_192_99, ze_192_100, ze_192_103, ze_192_104, ze_192_105, ze_192_108, ze_192_111, ze_192_112, z_k_r, z_push_s, z_push_n, okS_0, okS_I, okS_R, okS_A, List.getElem?_cons_zero, List.getElem?_cons_succ, List.length_cons, List.length_nil, List.set_cons_zero, List.set_cons_succ, true_and, and_true, z_tI, z_tB, pk_mul, nI_add, cI_cl, cI_ix, nar_0, nar_1, nar_b, Nat.reduceAdd, Nat.reduceLT, Nat.reduceMul, ↓mg_0, ↓mg_1, ↓mg_2, ↓mg_3, ↓mg_4, ↓mg_5, ↓mg_6, ↓mg_7, ↓mg_8, ↓mg_9, ↓mg_10, ↓mg_11, ↓mg_12, ↓mg_13, ↓mg_14, ↓mg_15, ↓mg_16, ↓mg_17, ↓mg_18, ↓mg_19, ↓mg_20, ↓mg_21, ↓mg_22, ↓mg_23, ↓mg_24, ↓mg_25, ↓mg_26, ↓mg_27, ↓mg_28, mp_0, mp_1, mp_2, mp_3, mp_4, mp_5, mp_6, mp_13, mp_14, mp_15, mp_16, mp_17, mp_18, mp_19, mp_20, mp_21, mp_23, mL_1, mL_2, mL_3, mL_4, mL_5, mL_6, mL_7, mL_8, mL_9, mL_10, mL_11, mL_12, mS_1, mS_2, mS_3, mS_4, mS_5, mS_6, mS_7, mS_8, mS_9, mS_10, mS_11, mS_12, m_gO, uA_s, uA_n, cI_lt, cI_eq, ↓reduceIte, if_true, if_false, Nat.lt_irrefl, eq_self, Nat.reduceEqDiff, or_true, true_or, or_false, false_or, not_false_eq_true, not_true_eq_false, ce_5, zb_t, zb_f, h2, s5, sS_bit, zb_0, z']
      obtain ⟨F, c1, c2⟩ := loop S.C 0 (by omega)
      unfold GS.fR
      rw [if_pos e]
      refine ⟨F, c1, fun q P => ?_⟩
      rw [← c2 q P, ze_192_2]
      simp (disch := omega) only [ze_192_0, ze_192_1, ze_192_3, ze_192_4, ze_192_7, ze_192_10, ze_192_11, ze_192_12, ze_192_13, ze_192_16, ze_192_17, ze_192_20, ze_192_23, ze_192_26, ze_192_27, ze_192_28, ze_192_31, ze_192_34, ze_192_35, ze_192_36, ze_192_37, ze_192_38, ze_192_39, ze_192_42, ze_192_44, ze_192_45, ze_192_49, ze_192_50, ze_192_53, ze_192_56, ze_192_58, ze_192_60, ze_192_61, ze_192_62, ze_192_63, ze_192_66, ze_192_69, ze_192_70, ze_192_73, ze_192_74, ze_192_75, ze_192_78, ze_192_80, ze_192_81, ze_192_82, ze_192_83, ze_192_84, ze_192_85, ze_192_86, ze_192_89, ze_192_92, ze_192_93, ze_192_94, ze_192_95, ze_192_98, ze_192_99, ze_192_100, ze_192_103, ze_192_104, ze_192_105, ze_192_108, ze_192_111, ze_192_112, z_k_r, z_push_s, z_push_n, okS_0, okS_I, okS_R, okS_A, List.getElem?_cons_zero, List.getElem?_cons_succ, List.length_cons, List.length_nil, List.set_cons_zero, List.set_cons_succ, true_and, and_true, z_tI, z_tB, pk_mul, nI_add, cI_cl, cI_ix, nar_0, nar_1, nar_b, Nat.reduceAdd, Nat.reduceLT, Nat.reduceMul, ↓mg_0, ↓mg_1, ↓mg_2, ↓mg_3, ↓mg_4, ↓mg_5, ↓mg_6, ↓mg_7, ↓mg_8, ↓mg_9, ↓mg_10, ↓mg_11, ↓mg_12, ↓mg_13, ↓mg_14, ↓mg_15, ↓mg_16, ↓mg_17, ↓mg_18, ↓mg_19, ↓mg_20, ↓mg_21, ↓mg_22, ↓mg_23, ↓mg_24, ↓mg_25, ↓mg_26, ↓mg_27, ↓mg_28, mp_0, mp_1, mp_2, mp_3, mp_4, mp_5, mp_6, mp_13, mp_14, mp_15, mp_16, mp_17, mp_18, mp_19, mp_20, mp_21, mp_23, mL_1, mL_2, mL_3, mL_4, mL_5, mL_6, mL_7, mL_8, mL_9, mL_10, mL_11, mL_12, mS_1, mS_2, mS_3, mS_4, mS_5, mS_6, mS_7, mS_8, mS_9, mS_10, mS_11, mS_12, m_gO, uA_s, uA_n, cI_lt, cI_eq, ↓reduceIte, if_true, if_false, Nat.lt_irrefl, eq_self, Nat.reduceEqDiff, or_true, true_or, or_false, false_or, not_false_eq_true, not_true_eq_false, ce_5, zb_t, zb_f, h2, hj, hj2, hd0, m_at hM, e5, e, m_cand hM hg]
    · obtain ⟨F, c1, c2⟩ := m_fl1 k d (j + 1) S A fr v w hM hg hr (by omega) (by omega)
      unfold GS.fR
      rw [if_neg e]
      refine ⟨F, c1, fun q P => ?_⟩
      rw [← c2 q P, ze_192_2]
      simp (disch := omega) only [ze_192_0, ze_192_1, ze_192_3, ze_192_4, ze_192_7, ze_192_10, ze_192_11, ze_192_12, ze_192_13, ze_192_16, ze_192_17, ze_192_20, ze_192_23, ze_192_26, ze_192_27, ze_192_28, ze_192_31, ze_192_34, ze_192_35, ze_192_36, ze_192_37, ze_192_38, ze_192_39, ze_192_42, ze_192_44, ze_192_45, ze_192_49, ze_192_50, ze_192_53, ze_192_56, ze_192_58, ze_192_60, ze_192_61, ze_192_62, ze_192_63, ze_192_66, ze_192_69, ze_192_70, ze_192_73, ze_192_74, ze_192_75, ze_192_78, ze_192_80, ze_192_81, ze_192_82, ze_192_83, ze_192_84, ze_192_85, ze_192_86, ze_192_89, ze_192_92, ze_192_93, ze_192_94, ze_192_95, ze_192_98, ze_192_99, ze_192_100, ze_192_103, ze_192_104, ze_192_105, ze_192_108, ze_192_111, ze_192_112, z_k_r, z_push_s, z_push_n, okS_0, okS_I, okS_R, okS_A, List.getElem?_cons_zero, List.getElem?_cons_succ, List.length_cons, List.length_nil, List.set_cons_zero, List.set_cons_succ, true_and, and_true, z_tI, z_tB, pk_mul, nI_add, cI_cl, cI_ix, nar_0, nar_1, nar_b, Nat.reduceAdd, Nat.reduceLT, Nat.reduceMul, ↓mg_0, ↓mg_1, ↓mg_2, ↓mg_3, ↓mg_4, ↓mg_5, ↓mg_6, ↓mg_7, ↓mg_8, ↓mg_9, ↓mg_10, ↓mg_11, ↓mg_12, ↓mg_13, ↓mg_14, ↓mg_15, ↓mg_16, ↓mg_17, ↓mg_18, ↓mg_19, ↓mg_20, ↓mg_21, ↓mg_22, ↓mg_23, ↓mg_24, ↓mg_25, ↓mg_26, ↓mg_27, ↓mg_28, mp_0, mp_1, mp_2, mp_3, mp_4, mp_5, mp_6, mp_13, mp_14, mp_15, mp_16, mp_17, mp_18, mp_19, mp_20, mp_21, mp_23, mL_1, mL_2, mL_3, mL_4, mL_5, mL_6, mL_7, mL_8, mL_9, mL_10, mL_11, mL_12, mS_1, mS_2, mS_3, mS_4, mS_5, mS_6, mS_7, mS_8, mS_9, mS_10, mS_11, mS_12, m_gO, uA_s, uA_n, cI_lt, cI_eq, ↓reduceIte, if_true, if_false, Nat.lt_irrefl, eq_self, Nat.reduceEqDiff, or_true, true_or, or_false, false_or, not_false_eq_true, not_true_eq_false, ce_5, zb_t, zb_f, h2, hj, hd0, m_at hM, e5, e]
theorem m_fl (hM : MH I A S) (hg : GI S) (hd : 11 < d) {r : Nat} (hr : r < S.R) : ∃ F, ((∀ T, S.fR r S.C 0 = some T → ∀ x, x < 25 → F x = ce (T.c x)) ∧ (S.fR r S.C 0 = none → F = A 5)) ∧ ∀ (q : Option Nat × Nat × Nat) (P : z_Res → Prop), z_Ca g d 192 [.ref m, .int (nI r), .int (nI 0)] (mw f m I A, q) P = P (.inr (some (.int (zb (oG (S.fR r S.C 0))))), (mw f m I (uA A 5 F), q)) := by
  have hC := hg.C5
  obtain ⟨F, c1, c2⟩ := m_fl1 (g := g) (f := f) (m := m) (r := r) S.C d 0 S A (nI 0) z_un z_un hM hg hr (by omega) (by omega)
  refine ⟨F, c1, fun q P => ?_⟩
  rw [← c2 q P, zn_192]
  simp (disch := omega) only [ze_192_0, ze_192_1, ze_192_3, ze_192_4, ze_192_7, ze_192_10, ze_192_11, ze_192_12, ze_192_13, ze_192_16, ze_192_17, ze_192_20, ze_192_23, ze_192_26, ze_192_27, ze_192_28, ze_192_31, ze_192_34, ze_192_35, ze_192_36, ze_192_37, ze_192_38, ze_192_39, ze_192_42, ze_192_44, ze_192_45, ze_192_47, ze_192_49, ze_192_50, ze_192_53, ze_192_56, ze_192_58, ze_192_60, ze_192_61, ze_192_62, ze_192_63, ze_192_66, ze_192_69, ze_192_70, ze_192_73, ze_192_74, ze_192_75, ze_192_78, ze_192_80, ze_192_81, ze_192_82, ze_192_83, ze_192_84, ze_192_85, ze_192_86, ze_192_89, ze_192_92, ze_192_93, ze_192_94, ze_192_95, ze_192_98, ze_192_99, ze_192_100, ze_192_103, ze_192_104, ze_192_105, ze_192_108, ze_192_111, ze_192_112, z_k_r, z_push_s, z_push_n, okS_0, okS_I, okS_R, okS_A, List.getElem?_cons_zero, List.getElem?_cons_succ, List.length_cons, List.length_nil, List.set_cons_zero, List.set_cons_succ, true_and, and_true, z_tI, z_tB, pk_mul, nI_add, cI_cl, cI_ix, nar_0, nar_1, nar_b, Nat.reduceAdd, Nat.reduceLT, Nat.reduceMul]
end
