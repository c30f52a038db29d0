/-! the class's first completion; what a cell can have, in the reference; first and longest transversals -/
theorem cn_from {T : GS} (i n : Nat) (h : i + n = 25) (hs : ∀ k, k < i → ¬ (inR T.R T.C k = true ∧ T.c k = 5)) : T.cn = cp T.R T.C T.b n i T.c := by
  unfold GS.cn
  have := cp_skip (R := T.R) (C := T.C) (b := T.b) (c := T.c) i n 0 (fun k _ hk => hs k (by omega))
  rw [show n + i = 25 by omega, Nat.zero_add] at this
  exact this
theorem fsO_low {α : Type} {F : Nat → Option α} {x : α} {k t : Nat} (ht : t < k) (h1 : ∀ j, j < t → F j = none) (h2 : F t = some x) : fsO F 0 k = some x := by
  have := fsO_at (F := F) t (k - t - 1) 0 (fun j _ hj => h1 j (by omega)) (by rw [Nat.zero_add]; exact h2)
  rw [show t + (k - t - 1 + 1) = k by omega] at this
  exact this
section
variable {g : z_G} {d : Nat} {f : Nat → Option z_C} {a b : Nat} {S : GS}
theorem k_low1 {T : GS} (hg : GI T) (hd : 31 < d) {r j : Nat} (hr : r < T.R) (hj : j < T.C) (he : T.c (r * 5 + j) = 5) : ∀ (k s : Nat) (ol : Nat → Nat) (n : Nat), s + k = T.C → (∃ t, s ≤ t ∧ T.cd r j t = true ∧ (T.put r j t).cn ≠ 0) → (∀ t, t < s → T.cd r j t = true → (T.put r j t).cn = 0) → ∃ t ol' n', T.cd r j t = true ∧ (T.put r j t).cn ≠ 0 ∧ (∀ x, x < t → T.cd r j x = true → (T.put r j x).cn = 0) ∧ ∀ (q : Option Nat × Nat × Nat) (P : z_Res → Prop), z_T g d 4 13 [.ref b, .int (nI r), .int (nI j), .int (sS (T.cd r j)), .int (nI s)] [] (cw f b a T ol n, q) P = P (.inr none, (cw f b a (T.put r j t) ol' n', q))
  | 0, s, ol, n, h, hx, hl => by
    obtain ⟨t, t1, t2, t3⟩ := hx
    have := cd_lt t2
    omega
  | k + 1, s, ol, n, h, hx, hl => by
    have hC := hg.C5
    have hRC := hg.RC
    have hs : s < T.C := by omega
    have hd0 : 0 < d := by omega
    by_cases e : T.cd r j s = true
    · obtain ⟨ol1, n1, p1⟩ := k_count (g := g) (d := d - 1) (f := f) (a := a) (b := b) (GI_put hg hr hj e) (by omega) (L := 1) (by omega) (by omega) ol n
      by_cases e2 : (T.put r j s).cn = 0
      · obtain ⟨t, ol2, n2, u1, u2, u3, p2⟩ := k_low1 hg hd hr hj he k (s + 1) ol1 n1 (by omega) (by
          obtain ⟨t, t1, t2, t3⟩ := hx
          exact ⟨t, by have : t ≠ s := fun z => t3 (by rw [z]; exact e2)
                       omega, t2, t3⟩) (fun t t1 t2 => by
          by_cases z : t = s
          · rw [z]; exact e2
          · exact hl t (by omega) t2)
        refine ⟨t, ol2, n2, u1, u2, u3, fun q P => ?_⟩
        rw [← p2 q P, ze_4_13]
        simp (disch := omega) only [ze_4_0, ze_4_1, ze_4_4, ze_4_5, ze_4_6, ze_4_9, ze_4_10, ze_4_11, ze_4_15, ze_4_16, ze_4_19, ze_4_22, ze_4_25, ze_4_26, ze_4_28, ze_4_29, ze_4_30, ze_4_31, ze_4_34, ze_4_35, ze_4_38, ze_4_39, ze_4_40, ze_4_42, ze_4_45, ze_4_46, ze_4_47, ze_4_50, ze_4_53, ze_4_54, ze_4_55, ze_4_58, ze_4_59, ze_4_60, ze_4_63, ze_4_66, ze_4_69, z_gI, z_gR, z_pF, z_aL, z_aS, z_gO, z_k_r, z_push_s, z_push_n, okS_0, okS_I, okS_R, okS_A, List.getElem?_cons_zero, List.getElem?_cons_succ, List.length_cons, List.length_nil, List.set_cons_zero, List.set_cons_succ, true_and, and_true, z_tI, z_tB, pk_mul, nI_add, cI_cl, cI_ix, nar_0, nar_1, nar_b, Nat.reduceAdd, Nat.reduceLT, Nat.reduceMul, arr_at, arr_upd, cI_lt, cI_eq, ↓reduceIte, if_true, if_false, Nat.lt_irrefl, eq_self, Nat.reduceEqDiff, or_true, true_or, or_false, false_or, not_false_eq_true, not_true_eq_false, ce_5, zb_t, zb_f, cw_0, cw_7, cw_g0, cw_g1, cw_u0, cw_u7, upd_nI, hs, sS_bit, e, zb_0, Bool.true_eq_false, k_put (T := T) (he := he), hd0, p1, min1, e2, k_take hg hr hj e]
      · refine ⟨s, ol1, n1, e, e2, hl, fun q P => ?_⟩
        rw [ze_4_13]
        simp (disch := omega) only [ze_4_0, ze_4_1, ze_4_4, ze_4_5, ze_4_6, ze_4_9, ze_4_10, ze_4_11, ze_4_15, ze_4_16, ze_4_19, ze_4_22, ze_4_25, ze_4_26, ze_4_28, ze_4_29, ze_4_30, ze_4_31, ze_4_34, ze_4_35, ze_4_38, ze_4_39, ze_4_40, ze_4_42, ze_4_45, ze_4_46, ze_4_47, ze_4_50, ze_4_53, ze_4_54, ze_4_55, ze_4_58, ze_4_59, ze_4_60, ze_4_63, ze_4_66, ze_4_69, z_gI, z_gR, z_pF, z_aL, z_aS, z_gO, z_k_r, z_push_s, z_push_n, okS_0, okS_I, okS_R, okS_A, List.getElem?_cons_zero, List.getElem?_cons_succ, List.length_cons, List.length_nil, List.set_cons_zero, List.set_cons_succ, true_and, and_true, z_tI, z_tB, pk_mul, nI_add, cI_cl, cI_ix, nar_0, nar_1, nar_b, Nat.reduceAdd, Nat.reduceLT, Nat.reduceMul, arr_at, arr_upd, cI_lt, cI_eq, ↓reduceIte, if_true, if_false, Nat.lt_irrefl, eq_self, Nat.reduceEqDiff, or_true, true_or, or_false, false_or, not_false_eq_true, not_true_eq_false, ce_5, zb_t, zb_f, cw_0, cw_7, cw_g0, cw_g1, cw_u0, cw_u7, upd_nI, hs, sS_bit, e, zb_0, Bool.true_eq_false, k_put (T := T) (he := he), hd0, p1, min1, e2]
    · have e' : T.cd r j s = false := by simpa using e
      obtain ⟨t, ol2, n2, u1, u2, u3, p2⟩ := k_low1 hg hd hr hj he k (s + 1) ol n (by omega) (by
          obtain ⟨t, t1, t2, t3⟩ := hx
          exact ⟨t, by have : t ≠ s := fun z => e (by rw [← z]; exact t2)
                       omega, t2, t3⟩) (fun t t1 t2 => by
          by_cases z : t = s
          · rw [z] at t2; exact absurd t2 e
          · exact hl t (by omega) t2)
      refine ⟨t, ol2, n2, u1, u2, u3, fun q P => ?_⟩
      rw [← p2 q P, ze_4_13]
      simp (disch := omega) only [ze_4_0, ze_4_1, ze_4_4, ze_4_5, ze_4_6, ze_4_9, ze_4_10, ze_4_11, ze_4_15, ze_4_16, ze_4_19, ze_4_22, ze_4_25, ze_4_26, ze_4_28, ze_4_29, ze_4_30, ze_4_31, ze_4_34, ze_4_35, ze_4_38, ze_4_39, ze_4_40, ze_4_42, ze_4_45, ze_4_46, ze_4_47, ze_4_50, ze_4_53, ze_4_54, ze_4_55, ze_4_58, ze_4_59, ze_4_60, ze_4_63, ze_4_66, ze_4_69, z_gI, z_gR, z_pF, z_aL, z_aS, z_gO, z_k_r, z_push_s, z_push_n, okS_0, okS_I, okS_R, okS_A, List.getElem?_cons_zero, List.getElem?_cons_succ, List.length_cons, List.length_nil, List.set_cons_zero, List.set_cons_succ, true_and, and_true, z_tI, z_tB, pk_mul, nI_add, cI_cl, cI_ix, nar_0, nar_1, nar_b, Nat.reduceAdd, Nat.reduceLT, Nat.reduceMul, arr_at, arr_upd, cI_lt, cI_eq, ↓reduceIte, if_true, if_false, Nat.lt_irrefl, eq_self, Nat.reduceEqDiff, or_true, true_or, or_false, false_or, not_false_eq_true, not_true_eq_false, ce_5, zb_t, zb_f, cw_0, cw_7, cw_g0, cw_g1, cw_u0, cw_u7, upd_nI, hs, sS_bit, e', zb_0]
theorem k_low {T : GS} (hg : GI T) (hd : 31 < d) {r j : Nat} (hr : r < T.R) (hj : j < T.C) (he : T.c (r * 5 + j) = 5) (hx : ∃ t, T.cd r j t = true ∧ (T.put r j t).cn ≠ 0) (ol : Nat → Nat) (n : Nat) : ∃ t ol' n', T.cd r j t = true ∧ (T.put r j t).cn ≠ 0 ∧ (∀ x, x < t → T.cd r j x = true → (T.put r j x).cn = 0) ∧ ∀ (q : Option Nat × Nat × Nat) (P : z_Res → Prop), z_Ca g d 4 [.ref b, .int (nI r), .int (nI j)] (cw f b a T ol n, q) P = P (.inr none, (cw f b a (T.put r j t) ol' n', q)) := by
  have hC := hg.C5
  have hRC := hg.RC
  have hd0 : 0 < d := by omega
  obtain ⟨x, x1, x2⟩ := hx
  obtain ⟨t, ol', n', u1, u2, u3, p⟩ := k_low1 (g := g) (f := f) (a := a) (b := b) hg hd hr hj he T.C 0 ol n (by omega) ⟨x, by omega, x1, x2⟩ (fun t ht => by omega)
  refine ⟨t, ol', n', u1, u2, u3, fun q P => ?_⟩
  rw [← p q P, zn_4]
  simp (disch := omega) only [ze_4_0, ze_4_1, ze_4_4, ze_4_5, ze_4_6, ze_4_9, ze_4_10, ze_4_11, ze_4_15, ze_4_16, ze_4_19, ze_4_22, ze_4_25, ze_4_26, ze_4_28, ze_4_29, ze_4_30, ze_4_31, ze_4_34, ze_4_35, ze_4_38, ze_4_39, ze_4_40, ze_4_42, ze_4_45, ze_4_46, ze_4_47, ze_4_50, ze_4_53, ze_4_54, ze_4_55, ze_4_58, ze_4_59, ze_4_60, ze_4_63, ze_4_66, ze_4_69, z_gI, z_gR, z_pF, z_aL, z_aS, z_gO, z_k_r, z_push_s, z_push_n, okS_0, okS_I, okS_R, okS_A, List.getElem?_cons_zero, List.getElem?_cons_succ, List.length_cons, List.length_nil, List.set_cons_zero, List.set_cons_succ, true_and, and_true, z_tI, z_tB, pk_mul, nI_add, cI_cl, cI_ix, nar_0, nar_1, nar_b, Nat.reduceAdd, Nat.reduceLT, Nat.reduceMul, arr_at, arr_upd, cI_lt, cI_eq, ↓reduceIte, if_true, if_false, Nat.lt_irrefl, eq_self, Nat.reduceEqDiff, or_true, true_or, or_false, false_or, not_false_eq_true, not_true_eq_false, ce_5, zb_t, zb_f, cw_0, cw_7, cw_g0, cw_g1, cw_u0, cw_u7, upd_nI, hd0, k_cand hg.c5 hC]
theorem k_fir1 {F : Nat → Nat} {u v : Int32} {last : Nat} (hl : last < 25) (hd : 32 < d) : ∀ (k i : Nat) (T : GS) (ol : Nat → Nat) (n : Nat), i + k = last + 1 → last / 5 < T.R → last % 5 < T.C → GI T → (∀ j, j < i → ¬ (inR T.R T.C j = true ∧ T.c j = 5)) → fcp T.R T.C T.b (25 - i) i T.c = some F → ∃ T' ol' n', GI T' ∧ ∀ (q : Option Nat × Nat × Nat) (P : z_Res → Prop), z_T g d 2 30 [.ref b, .int u, .int v, .int (nI last), .int (nI i)] [] (cw f b a T ol n, q) P = P (.inr (some (.int (ce (F last)))), (cw f b a T' ol' n', q))
  | 0, i, T, ol, n, h, hr, hj, hg, ha, hF => by
    have hC := hg.C5
    have : i = last + 1 := by omega
    subst this
    have hn : last < last + 1 := by omega
    refine ⟨T, ol, n, hg, fun q P => ?_⟩
    rw [fcp_keep _ _ _ _ hF last (by omega), ze_2_30]
    simp (disch := omega) only [ze_2_0, ze_2_1, ze_2_4, ze_2_5, ze_2_8, ze_2_11, ze_2_12, ze_2_13, ze_2_16, ze_2_19, ze_2_20, ze_2_21, ze_2_22, ze_2_23, ze_2_24, ze_2_25, ze_2_26, ze_2_27, ze_2_28, ze_2_32, ze_2_33, ze_2_36, ze_2_38, ze_2_39, ze_2_40, ze_2_41, ze_2_44, ze_2_47, ze_2_50, ze_2_51, ze_2_54, ze_2_57, ze_2_59, ze_2_60, ze_2_61, ze_2_64, ze_2_65, ze_2_67, ze_2_68, ze_2_69, ze_2_71, ze_2_72, ze_2_73, ze_2_76, ze_2_79, ze_2_82, ze_2_83, ze_2_86, ze_2_89, ze_2_90, ze_2_91, z_gI, z_gR, z_pF, z_aL, z_aS, z_gO, z_k_r, z_push_s, z_push_n, okS_0, okS_I, okS_R, okS_A, List.getElem?_cons_zero, List.getElem?_cons_succ, List.length_cons, List.length_nil, List.set_cons_zero, List.set_cons_succ, true_and, and_true, z_tI, z_tB, pk_mul, nI_add, cI_cl, cI_ix, nar_0, nar_1, nar_b, Nat.reduceAdd, Nat.reduceLT, Nat.reduceMul, arr_at, arr_upd, cI_lt, cI_eq, ↓reduceIte, if_true, if_false, Nat.lt_irrefl, eq_self, Nat.reduceEqDiff, or_true, true_or, or_false, false_or, not_false_eq_true, not_true_eq_false, ce_5, zb_t, zb_f, cw_0, cw_7, cw_g0, cw_g1, cw_u0, cw_u7, upd_nI, hn]
  | k + 1, i, T, ol, n, h, hr, hj, hg, ha, hF => by
    have hC := hg.C5
    have hRC := hg.RC
    have hi : ¬ last < i := by omega
    have hd0 : 0 < d := by omega
    have e5 := ce_em (hg.c5 i)
    have em : nI i - nI (i / 5 * 5) = nI (i % 5) := by rw [cI_sub (by omega)]; congr 1; omega
    have hF' := hF
    rw [show 25 - i = (25 - (i + 1)) + 1 by omega] at hF'
    unfold fcp at hF'
    by_cases q1 : i % 5 < T.C
    · by_cases q2 : T.c i = 5
      · have hin : inR T.R T.C i = true := by unfold inR; rw [decide_eq_true (by omega : i / 5 < T.R), decide_eq_true q1]; rfl
        rw [if_pos ⟨hin, q2⟩] at hF'
        have he : T.c (i / 5 * 5 + i % 5) = 5 := by rw [k_split]; exact q2
        have rel : ∀ t, T.cd (i / 5) (i % 5) t = true → (fcp T.R T.C T.b (25 - (i + 1)) (i + 1) (nu T.c i t) = none ↔ (T.put (i / 5) (i % 5) t).cn = 0) := fun t ht => by
          have t5 := cd_lt ht
          have cu : (T.put (i / 5) (i % 5) t).c = nu T.c i t := by
            show nu T.c (i / 5 * 5 + i % 5) t = _
            rw [k_split]
          rw [fcp_cp, cn_from (i + 1) (25 - (i + 1)) (by omega) (fun x hx => by
            rw [cu]
            rintro ⟨z1, z2⟩
            by_cases z : x = i
            · rw [z, nu_s] at z2; omega
            · rw [nu_n z] at z2
              exact ha x (by omega) ⟨z1, z2⟩), cu]
          exact Iff.rfl
        obtain ⟨s0, s1, s2, s3⟩ := fsO_ex _ _ hF'
        have c0 : cdk T.C T.b T.c i s0 = true := by
          by_cases z : cdk T.C T.b T.c i s0 = true
          · exact z
          · rw [if_neg z] at s3; cases s3
        rw [if_pos c0] at s3
        have cc : ∀ t, cdk T.C T.b T.c i t = T.cd (i / 5) (i % 5) t := fun t => by rw [← cdk_cd (by omega), k_split]
        obtain ⟨t, ol1, n1, u1, u2, u3, p1⟩ := k_low (g := g) (d := d - 1) (f := f) (a := a) (b := b) hg (by omega) (show i / 5 < T.R by omega) q1 he ⟨s0, by rw [← cc]; exact c0, fun z => by
          rw [(rel s0 (by rw [← cc]; exact c0)).mpr z] at s3
          cases s3⟩ ol n
        have t5 := cd_lt u1
        have cu : (T.put (i / 5) (i % 5) t).c = nu T.c i t := by
          show nu T.c (i / 5 * 5 + i % 5) t = _
          rw [k_split]
        have ft : fcp T.R T.C T.b (25 - (i + 1)) (i + 1) (nu T.c i t) = some F := by
          cases z : fcp T.R T.C T.b (25 - (i + 1)) (i + 1) (nu T.c i t) with
          | none => exact absurd ((rel t u1).mp z) u2
          | some F' =>
            have := fsO_low (F := fun s => if cdk T.C T.b T.c i s = true then fcp T.R T.C T.b (25 - (i + 1)) (i + 1) (nu T.c i s) else none) (x := F') (k := T.C) t5 (fun x hx => by
              by_cases z2 : cdk T.C T.b T.c i x = true
              · rw [if_pos z2]
                rw [cc] at z2
                exact (rel x z2).mpr (u3 x hx z2)
              · rw [if_neg z2]) (by rw [if_pos (by rw [cc]; exact u1)]; exact z)
            rw [this] at hF'
            exact hF'
        obtain ⟨T', ol', n', w1, w2⟩ := k_fir1 (u := u) (v := v) hl hd k (i + 1) (T.put (i / 5) (i % 5) t) ol1 n1 (by omega) hr hj (GI_put hg (by omega) q1 u1) (fun x hx => by
            rw [cu]
            rintro ⟨z1, z2⟩
            by_cases z : x = i
            · rw [z, nu_s] at z2; omega
            · rw [nu_n z] at z2
              exact ha x (by omega) ⟨z1, z2⟩) (by rw [cu]; exact ft)
        refine ⟨T', ol', n', w1, fun q P => ?_⟩
        rw [← w2 q P, ze_2_30]
        simp (disch := omega) only [ze_2_0, ze_2_1, ze_2_4, ze_2_5, ze_2_8, ze_2_11, ze_2_12, ze_2_13, ze_2_16, ze_2_19, ze_2_20, ze_2_21, ze_2_22, ze_2_23, ze_2_24, ze_2_25, ze_2_26, ze_2_27, ze_2_28, ze_2_32, ze_2_33, ze_2_36, ze_2_38, ze_2_39, ze_2_40, ze_2_41, ze_2_44, ze_2_47, ze_2_50, ze_2_51, ze_2_54, ze_2_57, ze_2_59, ze_2_60, ze_2_61, ze_2_64, ze_2_65, ze_2_67, ze_2_68, ze_2_69, ze_2_71, ze_2_72, ze_2_73, ze_2_76, ze_2_79, ze_2_82, ze_2_83, ze_2_86, ze_2_89, ze_2_90, ze_2_91, z_gI, z_gR, z_pF, z_aL, z_aS, z_gO, z_k_r, z_push_s, z_push_n, okS_0, okS_I, okS_R, okS_A, List.getElem?_cons_zero, List.getElem?_cons_succ, List.length_cons, List.length_nil, List.set_cons_zero, List.set_cons_succ, true_and, and_true, z_tI, z_tB, pk_mul, nI_add, cI_cl, cI_ix, nar_0, nar_1, nar_b, Nat.reduceAdd, Nat.reduceLT, Nat.reduceMul, arr_at, arr_upd, cI_lt, cI_eq, ↓reduceIte, if_true, if_false, Nat.lt_irrefl, eq_self, Nat.reduceEqDiff, or_true, true_or, or_false, false_or, not_false_eq_true, not_true_eq_false, ce_5, zb_t, zb_f, cw_0, cw_7, cw_g0, cw_g1, cw_u0, cw_u7, upd_nI, hi, cI_div, em, q1, e5, q2, hd0, p1]
      · rw [if_neg (fun z => q2 z.2)] at hF'
        obtain ⟨T', ol', n', w1, w2⟩ := k_fir1 (u := u) (v := v) hl hd k (i + 1) T ol n (by omega) hr hj hg (fun x hx => by
            by_cases z : x = i
            · rw [z]; exact fun z => q2 z.2
            · exact ha x (by omega)) hF'
        refine ⟨T', ol', n', w1, fun q P => ?_⟩
        rw [← w2 q P, ze_2_30]
        simp (disch := omega) only [ze_2_0, ze_2_1, ze_2_4, ze_2_5, ze_2_8, ze_2_11, ze_2_12, ze_2_13, ze_2_16, ze_2_19, ze_2_20, ze_2_21, ze_2_22, ze_2_23, ze_2_24, ze_2_25, ze_2_26, ze_2_27, ze_2_28, ze_2_32, ze_2_33, ze_2_36, ze_2_38, ze_2_39, ze_2_40, ze_2_41, ze_2_44, ze_2_47, ze_2_50, ze_2_51, ze_2_54, ze_2_57, ze_2_59, ze_2_60, ze_2_61, ze_2_64, ze_2_65, ze_2_67, ze_2_68, ze_2_69, ze_2_71, ze_2_72, ze_2_73, ze_2_76, ze_2_79, ze_2_82, ze_2_83, ze_2_86, ze_2_89, ze_2_90, ze_2_91, z_gI, z_gR, z_pF, z_aL, z_aS, z_gO, z_k_r, z_push_s, z_push_n, okS_0, okS_I, okS_R, okS_A, List.getElem?_cons_zero, List.getElem?_cons_succ, List.length_cons, List.length_nil, List.set_cons_zero, List.set_cons_succ, true_and, and_true, z_tI, z_tB, pk_mul, nI_add, cI_cl, cI_ix, nar_0, nar_1, nar_b, Nat.reduceAdd, Nat.reduceLT, Nat.reduceMul, arr_at, arr_upd, cI_lt, cI_eq, ↓reduceIte, if_true, if_false, Nat.lt_irrefl, eq_self, Nat.reduceEqDiff, or_true, true_or, or_false, false_or, not_false_eq_true, not_true_eq_false, ce_5, zb_t, zb_f, cw_0, cw_7, cw_g0, cw_g1, cw_u0, cw_u7, upd_nI, hi, cI_div, em, q1, e5, q2]
    · have ni : ¬ inR T.R T.C i = true := fun z => by
        unfold inR at z
        rw [decide_eq_false q1, Bool.and_false] at z
        cases z
      rw [if_neg (fun z => ni z.1)] at hF'
      obtain ⟨T', ol', n', w1, w2⟩ := k_fir1 (u := u) (v := v) hl hd k (i + 1) T ol n (by omega) hr hj hg (fun x hx => by
          by_cases z : x = i
          · rw [z]; exact fun z => ni z.1
          · exact ha x (by omega)) hF'
      refine ⟨T', ol', n', w1, fun q P => ?_⟩
      rw [← w2 q P, ze_2_30]
      simp (disch := omega) only [ze_2_0, ze_2_1, ze_2_4, ze_2_5, ze_2_8, ze_2_11, ze_2_12, ze_2_13, ze_2_16, ze_2_19, ze_2_20, ze_2_21, ze_2_22, ze_2_23, ze_2_24, ze_2_25, ze_2_26, ze_2_27, ze_2_28, ze_2_32, ze_2_33, ze_2_36, ze_2_38, ze_2_39, ze_2_40, ze_2_41, ze_2_44, ze_2_47, ze_2_50, ze_2_51, ze_2_54, ze_2_57, ze_2_59, ze_2_60, ze_2_61, ze_2_64, ze_2_65, ze_2_67, ze_2_68, ze_2_69, ze_2_71, ze_2_72, ze_2_73, ze_2_76, ze_2_79, ze_2_82, ze_2_83, ze_2_86, ze_2_89, ze_2_90, ze_2_91, z_gI, z_gR, z_pF, z_aL, z_aS, z_gO, z_k_r, z_push_s, z_push_n, okS_0, okS_I, okS_R, okS_A, List.getElem?_cons_zero, List.getElem?_cons_succ, List.length_cons, List.length_nil, List.set_cons_zero, List.set_cons_succ, true_and, and_true, z_tI, z_tB, pk_mul, nI_add, cI_cl, cI_ix, nar_0, nar_1, nar_b, Nat.reduceAdd, Nat.reduceLT, Nat.reduceMul, arr_at, arr_upd, cI_lt, cI_eq, ↓reduceIte, if_true, if_false, Nat.lt_irrefl, eq_self, Nat.reduceEqDiff, or_true, true_or, or_false, false_or, not_false_eq_true, not_true_eq_false, ce_5, zb_t, zb_f, cw_0, cw_7, cw_g0, cw_g1, cw_u0, cw_u7, upd_nI, hi, cI_div, em, q1]
def fcV (S : GS) (k : Nat) : Int32 := match fcp S.R S.C S.b 25 0 S.c with
  | some F => ce (F k)
  | none => -1
theorem k_first {T : GS} (hA : HB f a 6 (gb a S.w)) (hab : a + 6 ≤ b) (hg : GI S) (hd : 33 < d) {r j : Nat} (hr : r < S.R) (hj : j < S.C) (ol : Nat → Nat) (n : Nat) : ∃ T' ol' n', GI T' ∧ ∀ (q : Option Nat × Nat × Nat) (P : z_Res → Prop), z_Ca g d 2 [.ref b, .int (nI r), .int (nI j)] (cw f b a T ol n, q) P = P (.inr (some (.int (fcV S (r * 5 + j)))), (cw f b a T' ol' n', q)) := by
  have hC := hg.C5
  have hRC := hg.RC
  have hd0 : 0 < d := by omega
  obtain ⟨ol1, n1, p1⟩ := k_count (g := g) (d := d - 1) (f := f) (a := a) (b := b) hg (by omega) (L := 1) (by omega) (by omega) ol n
  unfold fcV
  cases e : fcp S.R S.C S.b 25 0 S.c with
  | none =>
    have e2 : S.cn = 0 := (fcp_cp _ _ _).mp e
    refine ⟨S, ol1, n1, hg, fun q P => ?_⟩
    rw [zn_2]
    simp (disch := omega) only [ze_2_0, ze_2_1, ze_2_4, ze_2_5, ze_2_8, ze_2_11, ze_2_12, ze_2_13, ze_2_16, ze_2_19, ze_2_20, ze_2_21, ze_2_22, ze_2_23, ze_2_24, ze_2_25, ze_2_26, ze_2_27, ze_2_28, ze_2_32, ze_2_33, ze_2_36, ze_2_38, ze_2_39, ze_2_40, ze_2_41, ze_2_44, ze_2_47, ze_2_50, ze_2_51, ze_2_54, ze_2_57, ze_2_59, ze_2_60, ze_2_61, ze_2_64, ze_2_65, ze_2_67, ze_2_68, ze_2_69, ze_2_71, ze_2_72, ze_2_73, ze_2_76, ze_2_79, ze_2_82, ze_2_83, ze_2_86, ze_2_89, ze_2_90, ze_2_91, z_gI, z_gR, z_pF, z_aL, z_aS, z_gO, z_k_r, z_push_s, z_push_n, okS_0, okS_I, okS_R, okS_A, List.getElem?_cons_zero, List.getElem?_cons_succ, List.length_cons, List.length_nil, List.set_cons_zero, List.set_cons_succ, true_and, and_true, z_tI, z_tB, pk_mul, nI_add, cI_cl, cI_ix, nar_0, nar_1, nar_b, Nat.reduceAdd, Nat.reduceLT, Nat.reduceMul, arr_at, arr_upd, cI_lt, cI_eq, ↓reduceIte, if_true, if_false, Nat.lt_irrefl, eq_self, Nat.reduceEqDiff, or_true, true_or, or_false, false_or, not_false_eq_true, not_true_eq_false, ce_5, zb_t, zb_f, cw_0, cw_7, cw_g0, cw_g1, cw_u0, cw_u7, upd_nI, hd0, k_copy hA hab hg, p1, min1, e2]
  | some F =>
    have e2 : ¬ S.cn = 0 := fun z => by
      rw [(fcp_cp _ _ _).mpr z] at e
      cases e
    obtain ⟨T', ol', n', w1, w2⟩ := k_fir1 (g := g) (d := d) (f := f) (a := a) (b := b) (u := nI r) (v := nI j) (last := r * 5 + j) (by omega) (by omega) (r * 5 + j + 1) 0 S ol1 n1 (by omega) (by rw [show (r * 5 + j) / 5 = r by omega]; exact hr) (by rw [show (r * 5 + j) % 5 = j by omega]; exact hj) hg (fun x hx => by omega) e
    refine ⟨T', ol', n', w1, fun q P => ?_⟩
    rw [← w2 q P, zn_2]
    simp (disch := omega) only [ze_2_0, ze_2_1, ze_2_4, ze_2_5, ze_2_8, ze_2_11, ze_2_12, ze_2_13, ze_2_16, ze_2_19, ze_2_20, ze_2_21, ze_2_22, ze_2_23, ze_2_24, ze_2_25, ze_2_26, ze_2_27, ze_2_28, ze_2_32, ze_2_33, ze_2_36, ze_2_38, ze_2_39, ze_2_40, ze_2_41, ze_2_44, ze_2_47, ze_2_50, ze_2_51, ze_2_54, ze_2_57, ze_2_59, ze_2_60, ze_2_61, ze_2_64, ze_2_65, ze_2_67, ze_2_68, ze_2_69, ze_2_71, ze_2_72, ze_2_73, ze_2_76, ze_2_79, ze_2_82, ze_2_83, ze_2_86, ze_2_89, ze_2_90, ze_2_91, z_gI, z_gR, z_pF, z_aL, z_aS, z_gO, z_k_r, z_push_s, z_push_n, okS_0, okS_I, okS_R, okS_A, List.getElem?_cons_zero, List.getElem?_cons_succ, List.length_cons, List.length_nil, List.set_cons_zero, List.set_cons_succ, true_and, and_true, z_tI, z_tB, pk_mul, nI_add, cI_cl, cI_ix, nar_0, nar_1, nar_b, Nat.reduceAdd, Nat.reduceLT, Nat.reduceMul, arr_at, arr_upd, cI_lt, cI_eq, ↓reduceIte, if_true, if_false, Nat.lt_irrefl, eq_self, Nat.reduceEqDiff, or_true, true_or, or_false, false_or, not_false_eq_true, not_true_eq_false, ce_5, zb_t, zb_f, cw_0, cw_7, cw_g0, cw_g1, cw_u0, cw_u7, upd_nI, hd0, k_copy hA hab hg, p1, min1, e2]
end
section
variable {g : z_G} {d : Nat} {f : Nat → Option z_C} {q : Option Nat × Nat × Nat} {P : z_Res → Prop} {m : Nat} {I : Nat → Int32} {A : Nat → Nat → Int32} {S : GS}
end
