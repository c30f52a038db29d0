/-! what is asked of the search -/
section
variable {g : z_G} {d : Nat} {f : Nat → Option z_C} {a b : Nat} {S T : GS}
theorem cwF_HB {ol : Nat → Nat} {n : Nat} (hA : HB f a 6 (gb a S.w)) (hab : a + 6 ≤ b) : HB (cwF f b a ol n) a 6 (gb a S.w) := fun k hk => by
  unfold cwF
  rw [z_up_ne (by omega), z_up_ne (by omega)]
  exact hA k hk
theorem k_copy (hA : HB f a 6 (gb a S.w)) (hab : a + 6 ≤ b) (hg : GI S) (hd : 1 < d) {ol : Nat → Nat} {n : Nat} {q : Option Nat × Nat × Nat} {P : z_Res → Prop} : z_Ca g d 26 [.ref (b + 1), .ref a] (cw f b a T ol n, q) P = P (.inr none, (cw f b a S ol n, q)) :=
  s_copy (f := cwF f b a ol n) (a := b + 1) (cwF_HB hA hab) (by omega) hg hd T.w
theorem k_all (hA : HB f a 6 (gb a S.w)) (hab : a + 6 ≤ b) (hg : GI S) (hd : 31 < d) {L : Nat} (hL : 0 < L) (hL2 : L ≤ 1000) (ol : Nat → Nat) (n : Nat) : ∃ ol' n', ∀ (q : Option Nat × Nat × Nat) (P : z_Res → Prop), z_Ca g d 1 [.ref b, .int (nI L)] (cw f b a T ol n, q) P = P (.inr (some (.int (nI (min L S.cn)))), (cw f b a S ol' n', q)) := by
  have hd0 : 0 < d := by omega
  obtain ⟨ol1, n1, p1⟩ := k_count (g := g) (d := d - 1) (f := f) (a := a) (b := b) hg (by omega) hL hL2 ol n
  refine ⟨ol1, n1, fun q P => ?_⟩
  rw [zn_1]
  simp (disch := omega) only [ze_1_0, ze_1_1, ze_1_4, ze_1_5, ze_1_8, ze_1_11, ze_1_12, ze_1_13, ze_1_16, z_gI, z_gR, z_pF, z_aL, z_aS, z_gO, z_k_r, z_push_s, z_push_n, okS_0, okS_I, okS_R, okS_A, List.getElem?_cons_zero, List.getElem?_cons_succ, List.length_cons, List.length_nil, List.set_cons_zero, List.set_cons_succ, true_and, and_true, z_tI, z_tB, pk_mul, nI_add, cI_cl, cI_ix, arr_at, arr_upd, nar_0, nar_1, nar_b, Nat.reduceAdd, Nat.reduceLT, Nat.reduceMul, cI_lt, cI_eq, ↓reduceIte, if_true, if_false, Nat.lt_irrefl, eq_self, Nat.reduceEqDiff, or_true, true_or, or_false, not_false_eq_true, not_true_eq_false, ce_5, zb_t, zb_f, cw_0, cw_7, cw_g0, cw_g1, cw_u0, cw_u7, upd_nI, hd0, k_copy hA hab hg, p1]
/-- symbols that leave a way -/
def GS.ps (S : GS) (r j s : Nat) : Bool := S.cd r j s && !decide ((S.put r j s).cn = 0)
theorem min1 (x : Nat) : (min 1 x = 0) = (x = 0) := propext (by omega)
theorem k_poss1 (hg : GI S) (hd : 31 < d) {r j : Nat} (hr : r < S.R) (hj : j < S.C) (he : S.c (r * 5 + j) = 5) {y : Int32} : ∀ (k s : Nat) (ol : Nat → Nat) (n : Nat), s + k = S.C → ∃ ol' n', ∀ (q : Option Nat × Nat × Nat) (P : z_Res → Prop), z_T g d 3 63 [.ref b, .int (nI r), .int (nI j), .int y, .int (sS fun t => decide (t < s) && S.ps r j t), .int (sS (S.cd r j)), .int (nI s)] [] (cw f b a S ol n, q) P = P (.inr (some (.int (sS (S.ps r j)))), (cw f b a S ol' n', q))
  | 0, s, ol, n, h => by
    have : s = S.C := by omega
    subst this
    have hC := hg.C5
    refine ⟨ol, n, fun q P => ?_⟩
    rw [ze_3_63]
    simp (disch := omega) only [ze_3_0, ze_3_1, ze_3_4, ze_3_5, ze_3_8, ze_3_11, ze_3_12, ze_3_15, ze_3_18, ze_3_19, ze_3_20, ze_3_21, ze_3_22, ze_3_23, ze_3_24, ze_3_25, ze_3_26, ze_3_27, ze_3_30, ze_3_31, ze_3_32, ze_3_35, ze_3_38, ze_3_39, ze_3_42, ze_3_43, ze_3_44, ze_3_45, ze_3_46, ze_3_47, ze_3_49, ze_3_50, ze_3_53, ze_3_54, ze_3_55, ze_3_58, ze_3_60, ze_3_61, ze_3_65, ze_3_66, ze_3_69, ze_3_72, ze_3_75, ze_3_77, ze_3_79, ze_3_80, ze_3_81, ze_3_82, ze_3_85, ze_3_86, ze_3_89, ze_3_90, ze_3_91, ze_3_93, ze_3_96, ze_3_97, ze_3_98, ze_3_101, ze_3_104, ze_3_106, ze_3_107, ze_3_109, ze_3_110, ze_3_111, ze_3_113, ze_3_114, ze_3_117, ze_3_118, ze_3_119, ze_3_122, ze_3_125, ze_3_128, ze_3_130, z_gI, z_gR, z_pF, z_aL, z_aS, z_gO, z_k_r, z_push_s, z_push_n, okS_0, okS_I, okS_R, okS_A, List.getElem?_cons_zero, List.getElem?_cons_succ, List.length_cons, List.length_nil, List.set_cons_zero, List.set_cons_succ, true_and, and_true, z_tI, z_tB, pk_mul, nI_add, cI_cl, cI_ix, arr_at, arr_upd, nar_0, nar_1, nar_b, Nat.reduceAdd, Nat.reduceLT, Nat.reduceMul, cI_lt, cI_eq, ↓reduceIte, if_true, if_false, Nat.lt_irrefl, eq_self, Nat.reduceEqDiff, or_true, true_or, or_false, not_false_eq_true, not_true_eq_false, ce_5, zb_t, zb_f, cw_0, cw_7, cw_g0, cw_g1, cw_u0, cw_u7, upd_nI]
    rw [sS_congr (q := S.ps r j)]
    intro t ht
    cases e : S.ps r j t
    · rw [Bool.and_false]
    · unfold GS.ps at e
      simp only [Bool.and_eq_true] at e
      rw [decide_eq_true (cd_lt e.1)]
      rfl
  | k + 1, s, ol, n, h => by
    have hC := hg.C5
    have hRC := hg.RC
    have hs : s < S.C := by omega
    have hd0 : 0 < d := by omega
    by_cases e : S.cd r j s = true
    · obtain ⟨ol1, n1, p1⟩ := k_count (g := g) (d := d - 1) (f := f) (a := a) (b := b) (GI_put hg hr hj e) (by omega) (L := 1) (by omega) (by omega) ol n
      obtain ⟨ol2, n2, p2⟩ := k_poss1 hg hd hr hj he (y := y) k (s + 1) ol1 n1 (by omega)
      refine ⟨ol2, n2, fun q P => ?_⟩
      rw [← p2 q P, ze_3_63]
      simp (disch := omega) only [ze_3_0, ze_3_1, ze_3_4, ze_3_5, ze_3_8, ze_3_11, ze_3_12, ze_3_15, ze_3_18, ze_3_19, ze_3_20, ze_3_21, ze_3_22, ze_3_23, ze_3_24, ze_3_25, ze_3_26, ze_3_27, ze_3_30, ze_3_31, ze_3_32, ze_3_35, ze_3_38, ze_3_39, ze_3_42, ze_3_43, ze_3_44, ze_3_45, ze_3_46, ze_3_47, ze_3_49, ze_3_50, ze_3_53, ze_3_54, ze_3_55, ze_3_58, ze_3_60, ze_3_61, ze_3_65, ze_3_66, ze_3_69, ze_3_72, ze_3_75, ze_3_77, ze_3_79, ze_3_80, ze_3_81, ze_3_82, ze_3_85, ze_3_86, ze_3_89, ze_3_90, ze_3_91, ze_3_93, ze_3_96, ze_3_97, ze_3_98, ze_3_101, ze_3_104, ze_3_106, ze_3_107, ze_3_109, ze_3_110, ze_3_111, ze_3_113, ze_3_114, ze_3_117, ze_3_118, ze_3_119, ze_3_122, ze_3_125, ze_3_128, ze_3_130, z_gI, z_gR, z_pF, z_aL, z_aS, z_gO, z_k_r, z_push_s, z_push_n, okS_0, okS_I, okS_R, okS_A, List.getElem?_cons_zero, List.getElem?_cons_succ, List.length_cons, List.length_nil, List.set_cons_zero, List.set_cons_succ, true_and, and_true, z_tI, z_tB, pk_mul, nI_add, cI_cl, cI_ix, arr_at, arr_upd, nar_0, nar_1, nar_b, Nat.reduceAdd, Nat.reduceLT, Nat.reduceMul, cI_lt, cI_eq, ↓reduceIte, if_true, if_false, Nat.lt_irrefl, eq_self, Nat.reduceEqDiff, or_true, true_or, or_false, not_false_eq_true, not_true_eq_false, ce_5, zb_t, zb_f, cw_0, cw_7, cw_g0, cw_g1, cw_u0, cw_u7, upd_nI, hs, sS_bit, e, zb_0, Bool.true_eq_false, k_put (T := S) (he := he), hd0, p1, min1, k_take hg hr hj e]
      by_cases e2 : (S.put r j s).cn = 0
      · simp (disch := omega) only [ze_3_0, ze_3_1, ze_3_4, ze_3_5, ze_3_8, ze_3_11, ze_3_12, ze_3_15, ze_3_18, ze_3_19, ze_3_20, ze_3_21, ze_3_22, ze_3_23, ze_3_24, ze_3_25, ze_3_26, ze_3_27, ze_3_30, ze_3_31, ze_3_32, ze_3_35, ze_3_38, ze_3_39, ze_3_42, ze_3_43, ze_3_44, ze_3_45, ze_3_46, ze_3_47, ze_3_49, ze_3_50, ze_3_53, ze_3_54, ze_3_55, ze_3_58, ze_3_60, ze_3_61, ze_3_65, ze_3_66, ze_3_69, ze_3_72, ze_3_75, ze_3_77, ze_3_79, ze_3_80, ze_3_81, ze_3_82, ze_3_85, ze_3_86, ze_3_89, ze_3_90, ze_3_91, ze_3_93, ze_3_96, ze_3_97, ze_3_98, ze_3_101, ze_3_104, ze_3_106, ze_3_107, ze_3_109, ze_3_110, ze_3_111, ze_3_113, ze_3_114, ze_3_117, ze_3_118, ze_3_119, ze_3_122, ze_3_125, ze_3_128, ze_3_130, z_gI, z_gR, z_pF, z_aL, z_aS, z_gO, z_k_r, z_push_s, z_push_n, okS_0, okS_I, okS_R, okS_A, List.getElem?_cons_zero, List.getElem?_cons_succ, List.length_cons, List.length_nil, List.set_cons_zero, List.set_cons_succ, true_and, and_true, z_tI, z_tB, pk_mul, nI_add, cI_cl, cI_ix, arr_at, arr_upd, nar_0, nar_1, nar_b, Nat.reduceAdd, Nat.reduceLT, Nat.reduceMul, cI_lt, cI_eq, ↓reduceIte, if_true, if_false, Nat.lt_irrefl, eq_self, Nat.reduceEqDiff, or_true, true_or, or_false, not_false_eq_true, not_true_eq_false, ce_5, zb_t, zb_f, cw_0, cw_7, cw_g0, cw_g1, cw_u0, cw_u7, upd_nI, e2, k_take hg hr hj e]
        rw [sS_congr (q := fun t => decide (t < s + 1) && S.ps r j t)]
        intro t ht
        by_cases e3 : t = s
        · subst e3
          unfold GS.ps
          simp [e2]
        · have : (t < s + 1) = (t < s) := propext (by omega)
          simp only [this]
      · simp (disch := omega) only [ze_3_0, ze_3_1, ze_3_4, ze_3_5, ze_3_8, ze_3_11, ze_3_12, ze_3_15, ze_3_18, ze_3_19, ze_3_20, ze_3_21, ze_3_22, ze_3_23, ze_3_24, ze_3_25, ze_3_26, ze_3_27, ze_3_30, ze_3_31, ze_3_32, ze_3_35, ze_3_38, ze_3_39, ze_3_42, ze_3_43, ze_3_44, ze_3_45, ze_3_46, ze_3_47, ze_3_49, ze_3_50, ze_3_53, ze_3_54, ze_3_55, ze_3_58, ze_3_60, ze_3_61, ze_3_65, ze_3_66, ze_3_69, ze_3_72, ze_3_75, ze_3_77, ze_3_79, ze_3_80, ze_3_81, ze_3_82, ze_3_85, ze_3_86, ze_3_89, ze_3_90, ze_3_91, ze_3_93, ze_3_96, ze_3_97, ze_3_98, ze_3_101, ze_3_104, ze_3_106, ze_3_107, ze_3_109, ze_3_110, ze_3_111, ze_3_113, ze_3_114, ze_3_117, ze_3_118, ze_3_119, ze_3_122, ze_3_125, ze_3_128, ze_3_130, z_gI, z_gR, z_pF, z_aL, z_aS, z_gO, z_k_r, z_push_s, z_push_n, okS_0, okS_I, okS_R, okS_A, List.getElem?_cons_zero, List.getElem?_cons_succ, List.length_cons, List.length_nil, List.set_cons_zero, List.set_cons_succ, true_and, and_true, z_tI, z_tB, pk_mul, nI_add, cI_cl, cI_ix, arr_at, arr_upd, nar_0, nar_1, nar_b, Nat.reduceAdd, Nat.reduceLT, Nat.reduceMul, cI_lt, cI_eq, ↓reduceIte, if_true, if_false, Nat.lt_irrefl, eq_self, Nat.reduceEqDiff, or_true, true_or, or_false, not_false_eq_true, not_true_eq_false, ce_5, zb_t, zb_f, cw_0, cw_7, cw_g0, cw_g1, cw_u0, cw_u7, upd_nI, e2, sS_one, sS_or, k_take hg hr hj e]
        rw [sS_congr (q := fun t => decide (t < s + 1) && S.ps r j t)]
        intro t ht
        by_cases e3 : t = s
        · subst e3
          unfold GS.ps
          simp [e2, e]
        · have : (t < s + 1) = (t < s) := propext (by omega)
          simp [this, e3]
    · have e' : S.cd r j s = false := by simpa using e
      obtain ⟨ol2, n2, p2⟩ := k_poss1 hg hd hr hj he (y := y) k (s + 1) ol n (by omega)
      refine ⟨ol2, n2, fun q P => ?_⟩
      rw [← p2 q P, ze_3_63]
      simp (disch := omega) only [ze_3_0, ze_3_1, ze_3_4, ze_3_5, ze_3_8, ze_3_11, ze_3_12, ze_3_15, ze_3_18, ze_3_19, ze_3_20, ze_3_21, ze_3_22, ze_3_23, ze_3_24, ze_3_25, ze_3_26, ze_3_27, ze_3_30, ze_3_31, ze_3_32, ze_3_35, ze_3_38, ze_3_39, ze_3_42, ze_3_43, ze_3_44, ze_3_45, ze_3_46, ze_3_47, ze_3_49, ze_3_50, ze_3_53, ze_3_54, ze_3_55, ze_3_58, ze_3_60, ze_3_61, ze_3_65, ze_3_66, ze_3_69, ze_3_72, ze_3_75, ze_3_77, ze_3_79, ze_3_80, ze_3_81, ze_3_82, ze_3_85, ze_3_86, ze_3_89, ze_3_90, ze_3_91, ze_3_93, ze_3_96, ze_3_97, ze_3_98, ze_3_101, ze_3_104, ze_3_106, ze_3_107, ze_3_109, ze_3_110, ze_3_111, ze_3_113, ze_3_114, ze_3_117, ze_3_118, ze_3_119, ze_3_122, ze_3_125, ze_3_128, ze_3_130, z_gI, z_gR, z_pF, z_aL, z_aS, z_gO, z_k_r, z_push_s, z_push_n, okS_0, okS_I, okS_R, okS_A, List.getElem?_cons_zero, List.getElem?_cons_succ, List.length_cons, List.length_nil, List.set_cons_zero, List.set_cons_succ, true_and, and_true, z_tI, z_tB, pk_mul, nI_add, cI_cl, cI_ix, arr_at, arr_upd, nar_0, nar_1, nar_b, Nat.reduceAdd, Nat.reduceLT, Nat.reduceMul, cI_lt, cI_eq, ↓reduceIte, if_true, if_false, Nat.lt_irrefl, eq_self, Nat.reduceEqDiff, or_true, true_or, or_false, not_false_eq_true, not_true_eq_false, ce_5, zb_t, zb_f, cw_0, cw_7, cw_g0, cw_g1, cw_u0, cw_u7, upd_nI, hs, sS_bit, e', zb_0]
      rw [sS_congr (q := fun t => decide (t < s + 1) && S.ps r j t)]
      intro t ht
      by_cases e3 : t = s
      · subst e3
        unfold GS.ps
        simp [e']
      · have : (t < s + 1) = (t < s) := propext (by omega)
        simp only [this]
/-- what a cell can have -/
def GS.pb (S : GS) (r j : Nat) : Nat → Bool := if S.c (r * 5 + j) = 5 then S.ps r j else fun t => decide (t = S.c (r * 5 + j)) && !decide (S.cn = 0)
theorem k_poss (hA : HB f a 6 (gb a S.w)) (hab : a + 6 ≤ b) (hg : GI S) (hd : 31 < d) {r j : Nat} (hr : r < S.R) (hj : j < S.C) (ol : Nat → Nat) (n : Nat) : ∃ ol' n', ∀ (q : Option Nat × Nat × Nat) (P : z_Res → Prop), z_Ca g d 3 [.ref b, .int (nI r), .int (nI j)] (cw f b a T ol n, q) P = P (.inr (some (.int (sS (S.pb r j)))), (cw f b a S ol' n', q)) := by
  have hC := hg.C5
  have hRC := hg.RC
  have hd0 : 0 < d := by omega
  have e5 := ce_em (hg.c5 (r * 5 + j))
  unfold GS.pb
  by_cases e : S.c (r * 5 + j) = 5
  · obtain ⟨ol2, n2, p2⟩ := k_poss1 (g := g) (f := f) (a := a) (b := b) hg hd hr hj e (y := ce 5) S.C 0 ol n (by omega)
    refine ⟨ol2, n2, fun q P => ?_⟩
    rw [if_pos e, ← p2 q P, zn_3]
    simp (disch := omega) only [ze_3_0, ze_3_1, ze_3_4, ze_3_5, ze_3_8, ze_3_11, ze_3_12, ze_3_15, ze_3_18, ze_3_19, ze_3_20, ze_3_21, ze_3_22, ze_3_23, ze_3_24, ze_3_25, ze_3_26, ze_3_27, ze_3_30, ze_3_31, ze_3_32, ze_3_35, ze_3_38, ze_3_39, ze_3_42, ze_3_43, ze_3_44, ze_3_45, ze_3_46, ze_3_47, ze_3_49, ze_3_50, ze_3_53, ze_3_54, ze_3_55, ze_3_58, ze_3_60, ze_3_61, ze_3_65, ze_3_66, ze_3_69, ze_3_72, ze_3_75, ze_3_77, ze_3_79, ze_3_80, ze_3_81, ze_3_82, ze_3_85, ze_3_86, ze_3_89, ze_3_90, ze_3_91, ze_3_93, ze_3_96, ze_3_97, ze_3_98, ze_3_101, ze_3_104, ze_3_106, ze_3_107, ze_3_109, ze_3_110, ze_3_111, ze_3_113, ze_3_114, ze_3_117, ze_3_118, ze_3_119, ze_3_122, ze_3_125, ze_3_128, ze_3_130, z_gI, z_gR, z_pF, z_aL, z_aS, z_gO, z_k_r, z_push_s, z_push_n, okS_0, okS_I, okS_R, okS_A, List.getElem?_cons_zero, List.getElem?_cons_succ, List.length_cons, List.length_nil, List.set_cons_zero, List.set_cons_succ, true_and, and_true, z_tI, z_tB, pk_mul, nI_add, cI_cl, cI_ix, arr_at, arr_upd, nar_0, nar_1, nar_b, Nat.reduceAdd, Nat.reduceLT, Nat.reduceMul, cI_lt, cI_eq, ↓reduceIte, if_true, if_false, Nat.lt_irrefl, eq_self, Nat.reduceEqDiff, or_true, true_or, or_false, not_false_eq_true, not_true_eq_false, ce_5, zb_t, zb_f, cw_0, cw_7, cw_g0, cw_g1, cw_u0, cw_u7, upd_nI, hd0, k_copy hA hab hg, e5, e, k_cand hg.c5 hC]
    rw [sS_0, sS_congr (q := fun t => decide (t < 0) && S.ps r j t)]
    intro t ht
    simp
  · have hs : S.c (r * 5 + j) < 5 := by have := hg.c5 (r * 5 + j); omega
    obtain ⟨ol1, n1, p1⟩ := k_count (g := g) (d := d - 1) (f := f) (a := a) (b := b) hg (by omega) (L := 1) (by omega) (by omega) ol n
    refine ⟨ol1, n1, fun q P => ?_⟩
    rw [if_neg e, zn_3]
    simp (disch := omega) only [ze_3_0, ze_3_1, ze_3_4, ze_3_5, ze_3_8, ze_3_11, ze_3_12, ze_3_15, ze_3_18, ze_3_19, ze_3_20, ze_3_21, ze_3_22, ze_3_23, ze_3_24, ze_3_25, ze_3_26, ze_3_27, ze_3_30, ze_3_31, ze_3_32, ze_3_35, ze_3_38, ze_3_39, ze_3_42, ze_3_43, ze_3_44, ze_3_45, ze_3_46, ze_3_47, ze_3_49, ze_3_50, ze_3_53, ze_3_54, ze_3_55, ze_3_58, ze_3_60, ze_3_61, ze_3_65, ze_3_66, ze_3_69, ze_3_72, ze_3_75, ze_3_77, ze_3_79, ze_3_80, ze_3_81, ze_3_82, ze_3_85, ze_3_86, ze_3_89, ze_3_90, ze_3_91, ze_3_93, ze_3_96, ze_3_97, ze_3_98, ze_3_101, ze_3_104, ze_3_106, ze_3_107, ze_3_109, ze_3_110, ze_3_111, ze_3_113, ze_3_114, ze_3_117, ze_3_118, ze_3_119, ze_3_122, ze_3_125, ze_3_128, ze_3_130, z_gI, z_gR, z_pF, z_aL, z_aS, z_gO, z_k_r, z_push_s, z_push_n, okS_0, okS_I, okS_R, okS_A, List.getElem?_cons_zero, List.getElem?_cons_succ, List.length_cons, List.length_nil, List.set_cons_zero, List.set_cons_succ, true_and, and_true, z_tI, z_tB, pk_mul, nI_add, cI_cl, cI_ix, arr_at, arr_upd, nar_0, nar_1, nar_b, Nat.reduceAdd, Nat.reduceLT, Nat.reduceMul, cI_lt, cI_eq, ↓reduceIte, if_true, if_false, Nat.lt_irrefl, eq_self, Nat.reduceEqDiff, or_true, true_or, or_false, not_false_eq_true, not_true_eq_false, ce_5, zb_t, zb_f, cw_0, cw_7, cw_g0, cw_g1, cw_u0, cw_u7, upd_nI, hd0, k_copy hA hab hg, e5, e, p1, min1]
    by_cases e2 : S.cn = 0
    · simp (disch := omega) only [e2, cI_lt, cI_eq, ↓reduceIte, if_true, if_false, Nat.lt_irrefl, eq_self, Nat.reduceEqDiff, or_true, true_or, or_false, not_false_eq_true, not_true_eq_false, ce_5, zb_t, zb_f]
      rw [sS_0, sS_congr]
      intro t ht
      simp
    · simp (disch := omega) only [e2, cI_lt, cI_eq, ↓reduceIte, if_true, if_false, Nat.lt_irrefl, eq_self, Nat.reduceEqDiff, or_true, true_or, or_false, not_false_eq_true, not_true_eq_false, ce_5, zb_t, zb_f, ce_lt hs, sS_one, ze_3_0, ze_3_1, ze_3_4, ze_3_5, ze_3_8, ze_3_11, ze_3_12, ze_3_15, ze_3_18, ze_3_19, ze_3_20, ze_3_21, ze_3_22, ze_3_23, ze_3_24, ze_3_25, ze_3_26, ze_3_27, ze_3_30, ze_3_31, ze_3_32, ze_3_35, ze_3_38, ze_3_39, ze_3_42, ze_3_43, ze_3_44, ze_3_45, ze_3_46, ze_3_47, ze_3_49, ze_3_50, ze_3_53, ze_3_54, ze_3_55, ze_3_58, ze_3_60, ze_3_61, ze_3_65, ze_3_66, ze_3_69, ze_3_72, ze_3_75, ze_3_77, ze_3_79, ze_3_80, ze_3_81, ze_3_82, ze_3_85, ze_3_86, ze_3_89, ze_3_90, ze_3_91, ze_3_93, ze_3_96, ze_3_97, ze_3_98, ze_3_101, ze_3_104, ze_3_106, ze_3_107, ze_3_109, ze_3_110, ze_3_111, ze_3_113, ze_3_114, ze_3_117, ze_3_118, ze_3_119, ze_3_122, ze_3_125, ze_3_128, ze_3_130, z_gI, z_gR, z_pF, z_aL, z_aS, z_gO, z_k_r, z_push_s, z_push_n, okS_0, okS_I, okS_R, okS_A, List.getElem?_cons_zero, List.getElem?_cons_succ, List.length_cons, List.length_nil, List.set_cons_zero, List.set_cons_succ, true_and, and_true, z_tI, z_tB, pk_mul, nI_add, cI_cl, cI_ix, arr_at, arr_upd, nar_0, nar_1, nar_b, Nat.reduceAdd, Nat.reduceLT, Nat.reduceMul]
      rw [sS_congr]
      intro t ht
      simp
end
