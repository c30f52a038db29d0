/-! the law looks at each cell -/
theorem pop_ct (p : Nat → Bool) : pop p = ct p 0 5 := by
  unfold pop
  simp only [ct_s, ct_z, Nat.zero_add, Nat.reduceAdd, Nat.add_zero]
  omega
theorem ct_cut {p : Nat → Bool} {n : Nat} (hn : n ≤ 5) (h : ∀ t, n ≤ t → t < 5 → p t = false) : ct p 0 n = pop p := by
  have : ct p 0 5 = ct p 0 (n + (5 - n)) := by rw [show n + (5 - n) = 5 by omega]
  rw [pop_ct, this, ct_split, ct_zero (5 - n) (0 + n) (fun j h1 h2 => h j (by omega) (by omega)), Nat.add_zero]
section
variable {g : z_G} {d : Nat} {F : Nat → Option z_C} {a n : Nat} {q : Option Nat × Nat × Nat} {P : z_Res → Prop}
theorem s_size1 {p : Nat → Bool} (h : F a = some (bzA n (arr n fun t => zb (p t)))) (hn : n ≤ 5) {v : Value} : ∀ (k i t : Nat) (v5 : Value), i + k = n → z_T g d 144 10 [v, .int (nI t), .ref a, .int (nI n), .int (nI i), v5] [] (F, q) P = P (.inr (some (.int (nI (t + ct p i k)))), (F, q))
  | 0, i, t, v5, e => by
    have : i = n := by omega
    subst this
    rw [ze_144_10]
    simp (disch := omega) only [ze_144_0, ze_144_1, ze_144_2, ze_144_2_n, ze_144_3, ze_144_3_n, ze_144_4, ze_144_4_n, ze_144_5, ze_144_6, ze_144_7, ze_144_8, ze_144_12, ze_144_13, ze_144_16, ze_144_16_n, ze_144_17, ze_144_19, ze_144_20, ze_144_22, ze_144_24, ze_144_27, ze_144_30, ze_144_33, ze_144_36, ze_144_37, z_k_r, z_push_s, z_push_n, okS_0, okS_I, okS_R, okS_A, List.getElem?_cons_zero, List.getElem?_cons_succ, List.length_cons, List.length_nil, List.set_cons_zero, List.set_cons_succ, true_and, and_true, z_tI, z_tB, pk_mul, nI_add, cI_cl, cI_ix, nar_0, nar_1, nar_b, Nat.reduceAdd, Nat.reduceLT, Nat.reduceMul, cI_lt, cI_eq, ↓reduceIte, if_true, if_false, Nat.lt_irrefl, eq_self, Nat.reduceEqDiff, or_true, true_or, or_false, false_or, not_false_eq_true, not_true_eq_false, ce_5, zb_t, zb_f, ct_z, Nat.add_zero]
  | k + 1, i, t, v5, e => by
    have hi : i < n := by omega
    have l1 := fun K => zA_L (K := K) h hi (by omega)
    rw [ze_144_10, ct_s]
    simp (disch := omega) only [ze_144_0, ze_144_1, ze_144_2, ze_144_2_n, ze_144_3, ze_144_3_n, ze_144_4, ze_144_4_n, ze_144_5, ze_144_6, ze_144_7, ze_144_8, ze_144_12, ze_144_13, ze_144_16, ze_144_16_n, ze_144_17, ze_144_19, ze_144_20, ze_144_22, ze_144_24, ze_144_27, ze_144_30, ze_144_33, ze_144_36, ze_144_37, z_k_r, z_push_s, z_push_n, okS_0, okS_I, okS_R, okS_A, List.getElem?_cons_zero, List.getElem?_cons_succ, List.length_cons, List.length_nil, List.set_cons_zero, List.set_cons_succ, true_and, and_true, z_tI, z_tB, pk_mul, nI_add, cI_cl, cI_ix, nar_0, nar_1, nar_b, Nat.reduceAdd, Nat.reduceLT, Nat.reduceMul, cI_lt, cI_eq, ↓reduceIte, if_true, if_false, Nat.lt_irrefl, eq_self, Nat.reduceEqDiff, or_true, true_or, or_false, false_or, not_false_eq_true, not_true_eq_false, ce_5, zb_t, zb_f, hi, l1, arr_at, zb_0]
    cases e2 : p i
    · simp only [if_true, Bool.toNat_false, Nat.zero_add]
      exact s_size1 h hn k (i + 1) t _ (by omega)
    · simp only [Bool.true_eq_false, if_false, Bool.toNat_true, ← Nat.add_assoc]
      exact s_size1 h hn k (i + 1) (t + 1) _ (by omega)
theorem s_size {p : Nat → Bool} (h : F a = some (bzA n (arr n fun t => zb (p t)))) (hn : n ≤ 5) : z_Ca g d 144 [.ref a] (F, q) P = P (.inr (some (.int (nI (ct p 0 n)))), (F, q)) := by
  have w := s_size1 (g := g) (d := d) (q := q) (P := P) h hn (v := .ref a) n 0 0 z_un (Nat.zero_add _)
  rw [Nat.zero_add] at w
  have l1 : ∀ K : Nat → Prop, z_aN F a K = K n := fun K => by
    unfold z_aN
    rw [h]
    rfl
  rw [← w, zn_144]
  simp (disch := omega) only [ze_144_0, ze_144_1, ze_144_2, ze_144_2_n, ze_144_3, ze_144_3_n, ze_144_4, ze_144_4_n, ze_144_5, ze_144_6, ze_144_7, ze_144_8, ze_144_12, ze_144_13, ze_144_16, ze_144_16_n, ze_144_17, ze_144_19, ze_144_20, ze_144_22, ze_144_24, ze_144_27, ze_144_30, ze_144_33, ze_144_36, ze_144_37, z_k_r, z_push_s, z_push_n, okS_0, okS_I, okS_R, okS_A, List.getElem?_cons_zero, List.getElem?_cons_succ, List.length_cons, List.length_nil, List.set_cons_zero, List.set_cons_succ, true_and, and_true, z_tI, z_tB, pk_mul, nI_add, cI_cl, cI_ix, nar_0, nar_1, nar_b, Nat.reduceAdd, Nat.reduceLT, Nat.reduceMul, l1]
end
/-- the law's heap between two steps: S in the class and in the law's Grid -/
def LST (S : GS) (B Q ga c : Nat) (h : z_H) : Prop := ∃ (f : Nat → Option z_C) (X : LX) (N x y : Nat) (tb : Nat → Nat) (w : Nat → Int32), h = (lgw f Q S X, some N, x, y) ∧ CB f B S 0 tb ∧ B + 47 ≤ ga ∧ ga < Q ∧ Q + NL S ≤ N ∧ f ga = some (inA 1 w) ∧ x ≤ c ∧ y ≤ 60 * c
section
variable {g : z_G} {d B Q : Nat} {S : GS} {X : LX} {P : z_Res → Prop} {tb : Nat → Nat}
/-- all that the Grid's blocks below need of a heap -/
def OKf (f0 f : Nat → Option z_C) (N0 : Nat) : Prop := ∀ z, z < N0 → f z = f0 z
theorem l_cl1 (hg : GI S) (hd : 40 < d) (hB : B + 47 ≤ Q) {r fu : Nat} (hr : r < S.R) : ∀ (k j : Nat) (f : Nat → Option z_C) (N x y n st fc : Nat) (v8 v9 : Value), j + k = S.C → CB f B S 0 tb → Q + NL S ≤ N → fc = ct S.pf 0 (r * 5 + j) → (∀ f' N' x' y' v8' v9', OKf f f' N → N ≤ N' → x' ≤ x + k → y' ≤ y + 2 * k → z_T g d 152 221 [.ref B, .ref Q, .int (nI (n + ct (fun j => !decide (S.c (r * 5 + j) = 5)) j k)), .int (nI (st + ct (S.dead r) j k)), .int (nI fu), .int (nI (ct S.pf 0 (r * 5 + S.C))), .int (nI r), .int (nI S.C), v8', v9'] [] (lgw f' Q S X, some N', x', y') P) → z_T g d 152 37 [.ref B, .ref Q, .int (nI n), .int (nI st), .int (nI fu), .int (nI fc), .int (nI r), .int (nI j), v8, v9] [] (lgw f Q S X, some N, x, y) P
  | 0, j, f, N, x, y, n, st, fc, v8, v9, h, hCB, hN, hfc, hP => by
    have hC := hg.C5
    have hR := hg.RC
    have : j = S.C := by omega
    subst this
    subst hfc
    have := hP f N x y v8 v9 (fun _ _ => rfl) (Nat.le_refl _) (by omega) (by omega)
    rw [ct_z, ct_z, Nat.add_zero, Nat.add_zero] at this
    rw [ze_152_37]
    simp (disch := omega) only [ze_152_0, ze_152_1, ze_152_2, ze_152_3, ze_152_4, ze_152_5, ze_152_7, ze_152_8, ze_152_10, ze_152_11, ze_152_13, ze_152_15, ze_152_15_n, ze_152_16, ze_152_19, ze_152_22, ze_152_22_n, ze_152_23, ze_152_25, ze_152_28, ze_152_31, ze_152_34, ze_152_35, ze_152_39, ze_152_39_n, ze_152_40, ze_152_43, ze_152_46, ze_152_46_n, ze_152_47, ze_152_49, ze_152_51, ze_152_54, ze_152_56, ze_152_56_n, ze_152_57, ze_152_59, ze_152_61, ze_152_64, ze_152_64_n, ze_152_65, ze_152_68, ze_152_70, ze_152_71, ze_152_73, ze_152_74, ze_152_77, ze_152_77_n, ze_152_78, ze_152_80, ze_152_82, ze_152_85, ze_152_85_n, ze_152_86, ze_152_89, ze_152_91, ze_152_92, ze_152_94, ze_152_95, ze_152_98, ze_152_98_n, ze_152_99, ze_152_101, ze_152_103, ze_152_106, ze_152_108, ze_152_111, ze_152_112, ze_152_113, ze_152_113_n, ze_152_114, ze_152_117, ze_152_119, ze_152_120, ze_152_122, ze_152_123, ze_152_126, ze_152_129, ze_152_132, ze_152_134, ze_152_137, ze_152_140, ze_152_140_n, ze_152_141, ze_152_143, ze_152_145, ze_152_148, ze_152_148_n, ze_152_150, ze_152_150_n, ze_152_152, ze_152_152_n, ze_152_152_s, ze_152_155, ze_152_158, ze_152_158_n, ze_152_159, ze_152_161, ze_152_162, ze_152_165, ze_152_167, ze_152_170, ze_152_170_n, ze_152_171, ze_152_173, ze_152_174, ze_152_177, ze_152_179, ze_152_182, ze_152_182_n, ze_152_183, ze_152_185, ze_152_186, ze_152_189, ze_152_189_n, ze_152_191, ze_152_192, ze_152_193, ze_152_196, ze_152_196_n, ze_152_197, ze_152_199, ze_152_200, ze_152_203, ze_152_203_n, ze_152_205, ze_152_206, ze_152_207, ze_152_210, ze_152_211, ze_152_212, ze_152_215, ze_152_218, ze_152_224, ze_152_227, ze_152_227_n, ze_152_228, ze_152_229, ze_152_232, ze_152_233, ze_152_236, ze_152_236_n, ze_152_237, ze_152_238, ze_152_241, ze_152_242, ze_152_245, ze_152_245_n, ze_152_246, ze_152_248, ze_152_251, ze_152_253, ze_152_256, ze_152_256_n, ze_152_257, ze_152_260, ze_152_262, ze_152_265, ze_152_265_n, ze_152_266, ze_152_268, ze_152_269, ze_152_272, ze_152_273, ze_152_276, ze_152_277, ze_152_280, ze_152_281, z_k_r, z_push_s, z_push_n, okS_0, okS_I, okS_R, okS_A, List.getElem?_cons_zero, List.getElem?_cons_succ, List.length_cons, List.length_nil, List.set_cons_zero, List.set_cons_succ, true_and, and_true, z_tI, z_tB, pk_mul, nI_add, cI_cl, cI_ix, nar_0, nar_1, nar_b, Nat.reduceAdd, Nat.reduceLT, Nat.reduceMul, ↓lG_R, ↓lG_C, ↓lG_N, ↓lG_G, ↓lG_n, ↓lG_4, ↓lG_5, ↓lG_6, lG_o, ↓lG_q1, lG_q1, ↓lG_q2, lG_q2, ↓lG_q3, lG_q3, ↓lG_q4, lG_q4, ↓lG_a1, lG_a1, ↓lG_a2, lG_a2, ↓lG_a4, lG_a4, lH_R, lH_C, lH_N, lH_G, lH_n, lH_4, lH_5, lH_6, lH_q1, lH_q2, lH_q3, lH_q4, lH_a1, lH_a2, lH_a4, cI_lt, cI_eq, ↓reduceIte, if_true, if_false, Nat.lt_irrefl, eq_self, Nat.reduceEqDiff, or_true, true_or, or_false, false_or, not_false_eq_true, not_true_eq_false, ce_5, zb_t, zb_f]
    exact this
  | k + 1, j, f, N, x, y, n, st, fc, v8, v9, h, hCB, hN, hfc, hP => by
    have hC := hg.C5
    have hR := hg.RC
    have hj : j < S.C := by omega
    have hd0 : 0 < d := by omega
    have cO := hCB.O hB S X
    have cs := fun q P => l_cands (g := g) (d := d - 1) (f := f) (q := q) (P := P) (Q := Q) (X := X) hg (by omega) hr hj
    have o1 := hCB.read (g := g) (d := d - 1) hB (fun f G I A hI q P => xo_symbol hI (by omega) hr hj) S X
    have o2 := hCB.read (g := g) (d := d - 1) hB (fun f G I A hI q P => xo_isGiven hI (by omega) hr hj) S X
    have o3 := hCB.read (g := g) (d := d - 1) hB (fun f G I A hI q P => xo_candidates hI (by omega) hr hj) S X
    have e5 := ce_neg (hg.c5 (r * 5 + j))
    have fo := fun P => l_forced (g := g) (d := d - 1) (f := f) (N := N) (x := x) (y := y) (P := P) (Q := Q) (X := X) hg (by omega) hr hj
    have pfj := pf_at (S := S) (r := r) (j := j) (by omega)
    rw [decide_eq_true hr, decide_eq_true hj, Bool.true_and, Bool.true_and] at pfj
    have ctS : ct S.pf 0 (r * 5 + (j + 1)) = ct S.pf 0 (r * 5 + j) + (S.pf (r * 5 + j)).toNat := by
      rw [← Nat.add_assoc, ct_split, ct_s, ct_z, Nat.zero_add, Nat.add_zero]
    have fill : ∀ n st, z_T g d 152 140 [.ref B, .ref Q, .int (nI (n + (!decide (S.c (r * 5 + j) = 5)).toNat)), .int (nI (st + (S.dead r j).toNat)), .int (nI fu), .int (nI fc), .int (nI r), .int (nI j), .int (sS (S.cd r j)), v9] [] (lgw f Q S X, some N, x, y) P → z_T g d 152 37 [.ref B, .ref Q, .int (nI n), .int (nI st), .int (nI fu), .int (nI fc), .int (nI r), .int (nI j), v8, v9] [] (lgw f Q S X, some N, x, y) P := by
      intro n st hh
      rw [ze_152_37]
      simp (disch := omega) only [ze_152_0, ze_152_1, ze_152_2, ze_152_3, ze_152_4, ze_152_5, ze_152_7, ze_152_8, ze_152_10, ze_152_11, ze_152_13, ze_152_15, ze_152_15_n, ze_152_16, ze_152_19, ze_152_22, ze_152_22_n, ze_152_23, ze_152_25, ze_152_28, ze_152_31, ze_152_34, ze_152_35, ze_152_39, ze_152_39_n, ze_152_40, ze_152_43, ze_152_46, ze_152_46_n, ze_152_47, ze_152_49, ze_152_51, ze_152_54, ze_152_56, ze_152_56_n, ze_152_57, ze_152_59, ze_152_61, ze_152_64, ze_152_64_n, ze_152_65, ze_152_68, ze_152_70, ze_152_71, ze_152_73, ze_152_74, ze_152_77, ze_152_77_n, ze_152_78, ze_152_80, ze_152_82, ze_152_85, ze_152_85_n, ze_152_86, ze_152_89, ze_152_91, ze_152_92, ze_152_94, ze_152_95, ze_152_98, ze_152_98_n, ze_152_99, ze_152_101, ze_152_103, ze_152_106, ze_152_108, ze_152_111, ze_152_112, ze_152_113, ze_152_113_n, ze_152_114, ze_152_117, ze_152_119, ze_152_120, ze_152_122, ze_152_123, ze_152_126, ze_152_129, ze_152_132, ze_152_134, ze_152_137, ze_152_141, ze_152_143, ze_152_145, ze_152_148, ze_152_148_n, ze_152_150, ze_152_150_n, ze_152_152, ze_152_152_n, ze_152_152_s, ze_152_155, ze_152_158, ze_152_158_n, ze_152_159, ze_152_161, ze_152_162, ze_152_165, ze_152_167, ze_152_170, ze_152_170_n, ze_152_171, ze_152_173, ze_152_174, ze_152_177, ze_152_179, ze_152_182, ze_152_182_n, ze_152_183, ze_152_185, ze_152_186, ze_152_189, ze_152_189_n, ze_152_191, ze_152_192, ze_152_193, ze_152_196, ze_152_196_n, ze_152_197, ze_152_199, ze_152_200, ze_152_203, ze_152_203_n, ze_152_205, ze_152_206, ze_152_207, ze_152_210, ze_152_211, ze_152_212, ze_152_215, ze_152_218, ze_152_224, ze_152_227, ze_152_227_n, ze_152_228, ze_152_229, ze_152_232, ze_152_233, ze_152_236, ze_152_236_n, ze_152_237, ze_152_238, ze_152_241, ze_152_242, ze_152_245, ze_152_245_n, ze_152_246, ze_152_248, ze_152_251, ze_152_253, ze_152_256, ze_152_256_n, ze_152_257, ze_152_260, ze_152_262, ze_152_265, ze_152_265_n, ze_152_266, ze_152_268, ze_152_269, ze_152_272, ze_152_273, ze_152_276, ze_152_277, ze_152_280, ze_152_281, z_k_r, z_push_s, z_push_n, okS_0, okS_I, okS_R, okS_A, List.getElem?_cons_zero, List.getElem?_cons_succ, List.length_cons, List.length_nil, List.set_cons_zero, List.set_cons_succ, true_and, and_true, z_tI, z_tB, pk_mul, nI_add, cI_cl, cI_ix, nar_0, nar_1, nar_b, Nat.reduceAdd, Nat.reduceLT, Nat.reduceMul, ↓lG_R, ↓lG_C, ↓lG_N, ↓lG_G, ↓lG_n, ↓lG_4, ↓lG_5, ↓lG_6, lG_o, ↓lG_q1, lG_q1, ↓lG_q2, lG_q2, ↓lG_q3, lG_q3, ↓lG_q4, lG_q4, ↓lG_a1, lG_a1, ↓lG_a2, lG_a2, ↓lG_a4, lG_a4, lH_R, lH_C, lH_N, lH_G, lH_n, lH_4, lH_5, lH_6, lH_q1, lH_q2, lH_q3, lH_q4, lH_a1, lH_a2, lH_a4, cI_lt, cI_eq, ↓reduceIte, if_true, if_false, Nat.lt_irrefl, eq_self, Nat.reduceEqDiff, or_true, true_or, or_false, false_or, not_false_eq_true, not_true_eq_false, ce_5, zb_t, zb_f, hj, hd0, cO, ↓cs, ↓o1, ↓o2, ↓o3, e5]
      by_cases e : S.c (r * 5 + j) = 5
      · rw [if_pos e]
        rw [decide_eq_true e, Bool.not_true, Bool.toNat_false, Nat.add_zero] at hh
        by_cases e2 : sS (S.cd r j) = nI 0
        · rw [if_pos e2]
          rw [dead_iff e] at e2
          rw [e2, Bool.toNat_true] at hh
          exact hh
        · rw [if_neg e2]
          have e3 : S.dead r j = false := by
            cases z : S.dead r j
            · rfl
            · exact absurd ((dead_iff e).symm ▸ z) e2
          rw [e3, Bool.toNat_false, Nat.add_zero] at hh
          exact hh
      · rw [if_neg e]
        have e3 : S.dead r j = false := by unfold GS.dead; simp [e]
        rw [decide_eq_false e, Bool.not_false, Bool.toNat_true, e3, Bool.toNat_false, Nat.add_zero] at hh
        exact hh
    refine fill n st ?_
    have c25 := ct_le S.pf (r * 5 + j) 0
    by_cases z : S.rs r j = 0
    · have pf0 : S.pf (r * 5 + j) = false := by rw [pfj, z]; rfl
      have go := l_cl1 hg hd hB (fu := fu) hr k (j + 1) f N x y (n + (!decide (S.c (r * 5 + j) = 5)).toNat) (st + (S.dead r j).toNat) fc (.int (sS (S.cd r j))) .null (by omega) hCB hN (by rw [ctS, pf0, hfc]; rfl) (fun f' N' x' y' v8' v9' a b c e => by
        have := hP f' N' x' y' v8' v9' a b (by omega) (by omega)
        rw [ct_s, ct_s, ← Nat.add_assoc, ← Nat.add_assoc] at this
        exact this)
      simp only [z, if_true] at fo
      simp (disch := omega) only [ze_152_0, ze_152_1, ze_152_2, ze_152_3, ze_152_4, ze_152_5, ze_152_7, ze_152_8, ze_152_10, ze_152_11, ze_152_13, ze_152_15, ze_152_15_n, ze_152_16, ze_152_19, ze_152_22, ze_152_22_n, ze_152_23, ze_152_25, ze_152_28, ze_152_31, ze_152_34, ze_152_35, ze_152_39, ze_152_39_n, ze_152_40, ze_152_43, ze_152_46, ze_152_46_n, ze_152_47, ze_152_49, ze_152_51, ze_152_54, ze_152_56, ze_152_56_n, ze_152_57, ze_152_59, ze_152_61, ze_152_64, ze_152_64_n, ze_152_65, ze_152_68, ze_152_70, ze_152_71, ze_152_73, ze_152_74, ze_152_77, ze_152_77_n, ze_152_78, ze_152_80, ze_152_82, ze_152_85, ze_152_85_n, ze_152_86, ze_152_89, ze_152_91, ze_152_92, ze_152_94, ze_152_95, ze_152_98, ze_152_98_n, ze_152_99, ze_152_101, ze_152_103, ze_152_106, ze_152_108, ze_152_111, ze_152_112, ze_152_113, ze_152_113_n, ze_152_114, ze_152_117, ze_152_119, ze_152_120, ze_152_122, ze_152_123, ze_152_126, ze_152_129, ze_152_132, ze_152_134, ze_152_137, ze_152_140, ze_152_140_n, ze_152_141, ze_152_143, ze_152_145, ze_152_148, ze_152_148_n, ze_152_150, ze_152_150_n, ze_152_152, ze_152_152_n, ze_152_152_s, ze_152_155, ze_152_158, ze_152_158_n, ze_152_159, ze_152_161, ze_152_162, ze_152_165, ze_152_167, ze_152_170, ze_152_170_n, ze_152_171, ze_152_173, ze_152_174, ze_152_177, ze_152_179, ze_152_182, ze_152_182_n, ze_152_183, ze_152_185, ze_152_186, ze_152_189, ze_152_189_n, ze_152_191, ze_152_192, ze_152_193, ze_152_196, ze_152_196_n, ze_152_197, ze_152_199, ze_152_200, ze_152_203, ze_152_203_n, ze_152_205, ze_152_206, ze_152_207, ze_152_210, ze_152_211, ze_152_212, ze_152_215, ze_152_218, ze_152_224, ze_152_227, ze_152_227_n, ze_152_228, ze_152_229, ze_152_232, ze_152_233, ze_152_236, ze_152_236_n, ze_152_237, ze_152_238, ze_152_241, ze_152_242, ze_152_245, ze_152_245_n, ze_152_246, ze_152_248, ze_152_251, ze_152_253, ze_152_256, ze_152_256_n, ze_152_257, ze_152_260, ze_152_262, ze_152_265, ze_152_265_n, ze_152_266, ze_152_268, ze_152_269, ze_152_272, ze_152_273, ze_152_276, ze_152_277, ze_152_280, ze_152_281, z_k_r, z_push_s, z_push_n, okS_0, okS_I, okS_R, okS_A, List.getElem?_cons_zero, List.getElem?_cons_succ, List.length_cons, List.length_nil, List.set_cons_zero, List.set_cons_succ, true_and, and_true, z_tI, z_tB, pk_mul, nI_add, cI_cl, cI_ix, nar_0, nar_1, nar_b, Nat.reduceAdd, Nat.reduceLT, Nat.reduceMul, ↓lG_R, ↓lG_C, ↓lG_N, ↓lG_G, ↓lG_n, ↓lG_4, ↓lG_5, ↓lG_6, lG_o, ↓lG_q1, lG_q1, ↓lG_q2, lG_q2, ↓lG_q3, lG_q3, ↓lG_q4, lG_q4, ↓lG_a1, lG_a1, ↓lG_a2, lG_a2, ↓lG_a4, lG_a4, lH_R, lH_C, lH_N, lH_G, lH_n, lH_4, lH_5, lH_6, lH_q1, lH_q2, lH_q3, lH_q4, lH_a1, lH_a2, lH_a4, cI_lt, cI_eq, ↓reduceIte, if_true, if_false, Nat.lt_irrefl, eq_self, Nat.reduceEqDiff, or_true, true_or, or_false, false_or, not_false_eq_true, not_true_eq_false, ce_5, zb_t, zb_f, hd0, ↓fo]
      exact go
    · have pf1 : S.pf (r * 5 + j) = true := by rw [pfj]; simp [z]
      have hX : fc < 2147483648 := by omega
      have kf := kf_at (p := S.pf) (X := fc) hX (r * 5 + j) 0 25 0 (by omega) (by rw [Nat.zero_add]; exact pf1) (by omega)
      rw [Nat.zero_add] at kf
      have dd5 : (r * 5 + j) / 5 = r := by omega
      have mm5 : r * 5 + j - r * 5 = j := by omega
      have f0 : fV S (nI fc) 0 = nI r := by unfold fV; rw [kf]; simp only [mm5, dd5]; rfl
      have f1 : fV S (nI fc) 1 = nI j := by unfold fV; rw [kf]; simp only [mm5, dd5]; rfl
      have f2 : fV S (nI fc) 2 = nI (S.fs r j) := by unfold fV; rw [kf]; simp only [mm5, dd5]; rfl
      have f3 : fV S (nI fc) 3 = nI (S.rs r j) := by unfold fV; rw [kf]; simp only [mm5, dd5]; rfl
      have hCB1 : CB (z_up f N (a2c (nI (S.fs r j)) (nI (S.rs r j)))) B S 0 tb := hCB.ag fun y h1 h2 => z_up_ne (by omega)
      have cO1 := hCB1.O hB S X
      have q0 := hCB1.read (g := g) (d := d - 1) hB (fun f G I A hI q P => xo_forced hI (by omega) (nI fc) (w := 0) (by omega)) S X
      have q1 := hCB1.read (g := g) (d := d - 1) hB (fun f G I A hI q P => xo_forced hI (by omega) (nI fc) (w := 1) (by omega)) S X
      have q2 := hCB1.read (g := g) (d := d - 1) hB (fun f G I A hI q P => xo_forced hI (by omega) (nI fc) (w := 2) (by omega)) S X
      have q3 := hCB1.read (g := g) (d := d - 1) hB (fun f G I A hI q P => xo_forced hI (by omega) (nI fc) (w := 3) (by omega)) S X
      rw [f0] at q0
      rw [f1] at q1
      rw [f2] at q2
      rw [f3] at q3
      have hl : lgw (z_up f N (a2c (nI (S.fs r j)) (nI (S.rs r j)))) Q S X N = some (inA 2 (upd (upd (fun _ => 0) 0 (nI (S.fs r j))) 1 (nI (S.rs r j)))) := by rw [lg_o (.inr hN), z_up_self]; rfl
      have l0 := fun K => iA_L (K := K) hl (show 0 < 2 by omega) (by omega)
      have l1 := fun K => iA_L (K := K) hl (show 1 < 2 by omega) (by omega)
      rw [show upd (upd (fun _ => 0) 0 (nI (S.fs r j))) 1 (nI (S.rs r j)) 0 = nI (S.fs r j) from rfl] at l0
      rw [show upd (upd (fun _ => 0) 0 (nI (S.fs r j))) 1 (nI (S.rs r j)) 1 = nI (S.rs r j) from rfl] at l1
      have up := fun c => lgw_up (f := f) (Q := Q) (N := N) (S := S) (X := X) (c := c) (.inr hN)
      have go := l_cl1 hg hd hB (fu := fu) hr k (j + 1) (z_up f N (a2c (nI (S.fs r j)) (nI (S.rs r j)))) (N + 1) (x + 1) (y + 2) (n + (!decide (S.c (r * 5 + j) = 5)).toNat) (st + (S.dead r j).toNat) (fc + 1) (.int (sS (S.cd r j))) (.ref N) (by omega) hCB1 (by omega) (by rw [ctS, pf1, hfc]; rfl) (fun f' N' x' y' v8' v9' a b c e => by
        have := hP f' N' x' y' v8' v9' (fun z hz => by rw [a z (by omega), z_up_ne (by omega)]) (by omega) (by omega) (by omega)
        rw [ct_s, ct_s, ← Nat.add_assoc, ← Nat.add_assoc] at this
        exact this)
      simp only [z, if_false] at fo
      simp (disch := omega) only [ze_152_0, ze_152_1, ze_152_2, ze_152_3, ze_152_4, ze_152_5, ze_152_7, ze_152_8, ze_152_10, ze_152_11, ze_152_13, ze_152_15, ze_152_15_n, ze_152_16, ze_152_19, ze_152_22, ze_152_22_n, ze_152_23, ze_152_25, ze_152_28, ze_152_31, ze_152_34, ze_152_35, ze_152_39, ze_152_39_n, ze_152_40, ze_152_43, ze_152_46, ze_152_46_n, ze_152_47, ze_152_49, ze_152_51, ze_152_54, ze_152_56, ze_152_56_n, ze_152_57, ze_152_59, ze_152_61, ze_152_64, ze_152_64_n, ze_152_65, ze_152_68, ze_152_70, ze_152_71, ze_152_73, ze_152_74, ze_152_77, ze_152_77_n, ze_152_78, ze_152_80, ze_152_82, ze_152_85, ze_152_85_n, ze_152_86, ze_152_89, ze_152_91, ze_152_92, ze_152_94, ze_152_95, ze_152_98, ze_152_98_n, ze_152_99, ze_152_101, ze_152_103, ze_152_106, ze_152_108, ze_152_111, ze_152_112, ze_152_113, ze_152_113_n, ze_152_114, ze_152_117, ze_152_119, ze_152_120, ze_152_122, ze_152_123, ze_152_126, ze_152_129, ze_152_132, ze_152_134, ze_152_137, ze_152_140, ze_152_140_n, ze_152_141, ze_152_143, ze_152_145, ze_152_148, ze_152_148_n, ze_152_150, ze_152_150_n, ze_152_152, ze_152_152_n, ze_152_152_s, ze_152_155, ze_152_158, ze_152_158_n, ze_152_159, ze_152_161, ze_152_162, ze_152_165, ze_152_167, ze_152_170, ze_152_170_n, ze_152_171, ze_152_173, ze_152_174, ze_152_177, ze_152_179, ze_152_182, ze_152_182_n, ze_152_183, ze_152_185, ze_152_186, ze_152_189, ze_152_189_n, ze_152_191, ze_152_192, ze_152_193, ze_152_196, ze_152_196_n, ze_152_197, ze_152_199, ze_152_200, ze_152_203, ze_152_203_n, ze_152_205, ze_152_206, ze_152_207, ze_152_210, ze_152_211, ze_152_212, ze_152_215, ze_152_218, ze_152_224, ze_152_227, ze_152_227_n, ze_152_228, ze_152_229, ze_152_232, ze_152_233, ze_152_236, ze_152_236_n, ze_152_237, ze_152_238, ze_152_241, ze_152_242, ze_152_245, ze_152_245_n, ze_152_246, ze_152_248, ze_152_251, ze_152_253, ze_152_256, ze_152_256_n, ze_152_257, ze_152_260, ze_152_262, ze_152_265, ze_152_265_n, ze_152_266, ze_152_268, ze_152_269, ze_152_272, ze_152_273, ze_152_276, ze_152_277, ze_152_280, ze_152_281, z_k_r, z_push_s, z_push_n, okS_0, okS_I, okS_R, okS_A, List.getElem?_cons_zero, List.getElem?_cons_succ, List.length_cons, List.length_nil, List.set_cons_zero, List.set_cons_succ, true_and, and_true, z_tI, z_tB, pk_mul, nI_add, cI_cl, cI_ix, nar_0, nar_1, nar_b, Nat.reduceAdd, Nat.reduceLT, Nat.reduceMul, ↓lG_R, ↓lG_C, ↓lG_N, ↓lG_G, ↓lG_n, ↓lG_4, ↓lG_5, ↓lG_6, lG_o, ↓lG_q1, lG_q1, ↓lG_q2, lG_q2, ↓lG_q3, lG_q3, ↓lG_q4, lG_q4, ↓lG_a1, lG_a1, ↓lG_a2, lG_a2, ↓lG_a4, lG_a4, lH_R, lH_C, lH_N, lH_G, lH_n, lH_4, lH_5, lH_6, lH_q1, lH_q2, lH_q3, lH_q4, lH_a1, lH_a2, lH_a4, cI_lt, cI_eq, ↓reduceIte, if_true, if_false, Nat.lt_irrefl, eq_self, Nat.reduceEqDiff, or_true, true_or, or_false, false_or, not_false_eq_true, not_true_eq_false, ce_5, zb_t, zb_f, hd0, ↓fo, up, cO1, ↓q0, ↓q1, ↓q2, ↓q3, l0, l1]
      exact go
theorem l_cl2 (hg : GI S) (hd : 40 < d) (hB : B + 47 ≤ Q) : ∀ (k r : Nat) (f : Nat → Option z_C) (N x y n st fu fc : Nat) (v7 v8 v9 : Value), r + k = S.R → CB f B S 0 tb → Q + NL S ≤ N → fc = ct S.pf 0 (r * 5) → n = sm S.nf 0 r → st = sm (fun r => ct (S.dead r) 0 S.C) 0 r → fu = ct S.fl 0 r → (∀ f' N' x' y', OKf f f' N → N ≤ N' → x' ≤ x + 5 * k → y' ≤ y + 10 * k → P (.inr (some (.int (nI 1))), (lgw f' Q S X, some N', x', y'))) → z_T g d 152 13 [.ref B, .ref Q, .int (nI n), .int (nI st), .int (nI fu), .int (nI fc), .int (nI r), v7, v8, v9] [] (lgw f Q S X, some N, x, y) P
  | 0, r, f, N, x, y, n, st, fu, fc, v7, v8, v9, h, hCB, hN, h1, h2, h3, h4, hP => by
    have hC := hg.C5
    have hR := hg.RC
    have hd0 : 0 < d := by omega
    have er : r = S.R := by omega
    subst er
    have c25 := ct_le S.pf 25 0
    have cO := hCB.O hB S X
    have ct25 : ct S.pf 0 25 = fc := by
      have : ct S.pf 0 25 = ct S.pf 0 (S.R * 5 + (25 - S.R * 5)) := by rw [show S.R * 5 + (25 - S.R * 5) = 25 by omega]
      rw [this, ct_split, ct_zero (25 - S.R * 5) _ (fun j a b => ?_), h1, Nat.add_zero]
      unfold GS.pf
      rw [decide_eq_false (by omega)]
      rfl
    have o2 := hCB.read (g := g) (d := d - 1) hB (fun f G I A hI q P => xo_size hI (by omega) (k := 2) (by omega)) S X
    have o5 := hCB.read (g := g) (d := d - 1) hB (fun f G I A hI q P => xo_size hI (by omega) (k := 5) (by omega)) S X
    have o6 := hCB.read (g := g) (d := d - 1) hB (fun f G I A hI q P => xo_size hI (by omega) (k := 6) (by omega)) S X
    have oc := hCB.read (g := g) (d := d - 1) hB (fun f G I A hI q P => xo_forcedCells hI (by omega)) S X
    have q0 := hCB.read (g := g) (d := d - 1) hB (fun f G I A hI q P => xo_forced hI (by omega) (nI fc) (w := 0) (by omega)) S X
    have s2 : szV S 2 = nI n := by
      show nI (nF S.c 25) = _
      rw [h2, ← nf_25 hg]
      rfl
    have s5 : szV S 5 = nI st := by rw [h3]; rfl
    have s6 : szV S 6 = nI fu := by rw [h4]; rfl
    rw [s2] at o2
    rw [s5] at o5
    rw [s6] at o6
    rw [ct25] at oc
    have kn : kf S.pf (nI fc) 0 25 0 = none := (kf_iff (by omega) 25 0 0 (Nat.zero_le _)).mpr (by omega)
    have f0 : fV S (nI fc) 0 = -1 := by unfold fV; rw [kn]
    rw [f0] at q0
    have := hP f N x y (fun _ _ => rfl) (Nat.le_refl _) (by omega) (by omega)
    rw [ze_152_13]
    simp (disch := omega) only [ze_152_0, ze_152_1, ze_152_2, ze_152_3, ze_152_4, ze_152_5, ze_152_7, ze_152_8, ze_152_10, ze_152_11, ze_152_15, ze_152_15_n, ze_152_16, ze_152_19, ze_152_22, ze_152_22_n, ze_152_23, ze_152_25, ze_152_28, ze_152_31, ze_152_34, ze_152_35, ze_152_37, ze_152_39, ze_152_39_n, ze_152_40, ze_152_43, ze_152_46, ze_152_46_n, ze_152_47, ze_152_49, ze_152_51, ze_152_54, ze_152_56, ze_152_56_n, ze_152_57, ze_152_59, ze_152_61, ze_152_64, ze_152_64_n, ze_152_65, ze_152_68, ze_152_70, ze_152_71, ze_152_73, ze_152_74, ze_152_77, ze_152_77_n, ze_152_78, ze_152_80, ze_152_82, ze_152_85, ze_152_85_n, ze_152_86, ze_152_89, ze_152_91, ze_152_92, ze_152_94, ze_152_95, ze_152_98, ze_152_98_n, ze_152_99, ze_152_101, ze_152_103, ze_152_106, ze_152_108, ze_152_111, ze_152_112, ze_152_113, ze_152_113_n, ze_152_114, ze_152_117, ze_152_119, ze_152_120, ze_152_122, ze_152_123, ze_152_126, ze_152_129, ze_152_132, ze_152_134, ze_152_137, ze_152_140, ze_152_140_n, ze_152_141, ze_152_143, ze_152_145, ze_152_148, ze_152_148_n, ze_152_150, ze_152_150_n, ze_152_152, ze_152_152_n, ze_152_152_s, ze_152_155, ze_152_158, ze_152_158_n, ze_152_159, ze_152_161, ze_152_162, ze_152_165, ze_152_167, ze_152_170, ze_152_170_n, ze_152_171, ze_152_173, ze_152_174, ze_152_177, ze_152_179, ze_152_182, ze_152_182_n, ze_152_183, ze_152_185, ze_152_186, ze_152_189, ze_152_189_n, ze_152_191, ze_152_192, ze_152_193, ze_152_196, ze_152_196_n, ze_152_197, ze_152_199, ze_152_200, ze_152_203, ze_152_203_n, ze_152_205, ze_152_206, ze_152_207, ze_152_210, ze_152_211, ze_152_212, ze_152_215, ze_152_218, ze_152_221, ze_152_224, ze_152_227, ze_152_227_n, ze_152_228, ze_152_229, ze_152_232, ze_152_233, ze_152_236, ze_152_236_n, ze_152_237, ze_152_238, ze_152_241, ze_152_242, ze_152_245, ze_152_245_n, ze_152_246, ze_152_248, ze_152_251, ze_152_253, ze_152_256, ze_152_256_n, ze_152_257, ze_152_260, ze_152_262, ze_152_265, ze_152_265_n, ze_152_266, ze_152_268, ze_152_269, ze_152_272, ze_152_273, ze_152_276, ze_152_277, ze_152_280, ze_152_281, z_k_r, z_push_s, z_push_n, okS_0, okS_I, okS_R, okS_A, List.getElem?_cons_zero, List.getElem?_cons_succ, List.length_cons, List.length_nil, List.set_cons_zero, List.set_cons_succ, true_and, and_true, z_tI, z_tB, pk_mul, nI_add, cI_cl, cI_ix, nar_0, nar_1, nar_b, Nat.reduceAdd, Nat.reduceLT, Nat.reduceMul, ↓lG_R, ↓lG_C, ↓lG_N, ↓lG_G, ↓lG_n, ↓lG_4, ↓lG_5, ↓lG_6, lG_o, ↓lG_q1, lG_q1, ↓lG_q2, lG_q2, ↓lG_q3, lG_q3, ↓lG_q4, lG_q4, ↓lG_a1, lG_a1, ↓lG_a2, lG_a2, ↓lG_a4, lG_a4, lH_R, lH_C, lH_N, lH_G, lH_n, lH_4, lH_5, lH_6, lH_q1, lH_q2, lH_q3, lH_q4, lH_a1, lH_a2, lH_a4, cI_lt, cI_eq, ↓reduceIte, if_true, if_false, Nat.lt_irrefl, eq_self, Nat.reduceEqDiff, or_true, true_or, or_false, false_or, not_false_eq_true, not_true_eq_false, ce_5, zb_t, zb_f, hd0, cO, ↓o2, ↓o5, ↓o6, ↓oc, ↓q0]
    exact this
  | k + 1, r, f, N, x, y, n, st, fu, fc, v7, v8, v9, h, hCB, hN, h1, h2, h3, h4, hP => by
    have hC := hg.C5
    have hR := hg.RC
    have hd0 : 0 < d := by omega
    have hr : r < S.R := by omega
    have fl := fun P => l_full (g := g) (d := d - 1) (f := f) (q := (some N, x, y)) (P := P) (Q := Q) (X := X) hg hr
    have sms : ∀ (p : Nat → Nat), sm p 0 (r + 1) = sm p 0 r + p r := fun p => by
      rw [sm_split, sm_s, sm_z, Nat.zero_add, Nat.add_zero]
    have cts : ct S.fl 0 (r + 1) = ct S.fl 0 r + (S.fl r).toNat := by
      rw [ct_split, ct_s, ct_z, Nat.zero_add, Nat.add_zero]
    have c5 : ct S.pf 0 ((r + 1) * 5) = ct S.pf 0 (r * 5 + S.C) := by
      have : ct S.pf 0 ((r + 1) * 5) = ct S.pf 0 (r * 5 + S.C + (5 - S.C)) := by rw [show r * 5 + S.C + (5 - S.C) = (r + 1) * 5 by omega]
      rw [this, ct_split, ct_zero (5 - S.C) _ (fun j a b => ?_), Nat.add_zero]
      unfold GS.pf
      rw [decide_eq_false (by omega : ¬ j % 5 < S.C)]
      simp
    have w := fun v8 => l_cl1 (g := g) (P := P) (X := X) hg hd hB (tb := tb) (fu := fu + (S.fl r).toNat) hr S.C 0 f N x y n st fc v8 v9 (Nat.zero_add _) hCB hN (by rw [h1]; rfl) (fun f' N' x' y' v8' v9' a b c e => by
      have go := l_cl2 hg hd hB k (r + 1) f' N' x' y' (n + ct (fun j => !decide (S.c (r * 5 + j) = 5)) 0 S.C) (st + ct (S.dead r) 0 S.C) (fu + (S.fl r).toNat) (ct S.pf 0 (r * 5 + S.C)) (.int (nI S.C)) v8' v9' (by omega) (hCB.ag fun z h1 h2 => a z (by omega)) (by omega) c5.symm (by rw [sms, h2]; rfl) (by rw [sms, h3]) (by rw [cts, h4]) (fun f2 N2 x2 y2 a2 b2 c2 e2 => hP f2 N2 x2 y2 (fun z hz => by rw [a2 z (by omega), a z hz]) (by omega) (by omega) (by omega))
      simp (disch := omega) only [ze_152_0, ze_152_1, ze_152_2, ze_152_3, ze_152_4, ze_152_5, ze_152_7, ze_152_8, ze_152_10, ze_152_11, ze_152_15, ze_152_15_n, ze_152_16, ze_152_19, ze_152_22, ze_152_22_n, ze_152_23, ze_152_25, ze_152_28, ze_152_31, ze_152_34, ze_152_35, ze_152_39, ze_152_39_n, ze_152_40, ze_152_43, ze_152_46, ze_152_46_n, ze_152_47, ze_152_49, ze_152_51, ze_152_54, ze_152_56, ze_152_56_n, ze_152_57, ze_152_59, ze_152_61, ze_152_64, ze_152_64_n, ze_152_65, ze_152_68, ze_152_70, ze_152_71, ze_152_73, ze_152_74, ze_152_77, ze_152_77_n, ze_152_78, ze_152_80, ze_152_82, ze_152_85, ze_152_85_n, ze_152_86, ze_152_89, ze_152_91, ze_152_92, ze_152_94, ze_152_95, ze_152_98, ze_152_98_n, ze_152_99, ze_152_101, ze_152_103, ze_152_106, ze_152_108, ze_152_111, ze_152_112, ze_152_113, ze_152_113_n, ze_152_114, ze_152_117, ze_152_119, ze_152_120, ze_152_122, ze_152_123, ze_152_126, ze_152_129, ze_152_132, ze_152_134, ze_152_137, ze_152_140, ze_152_140_n, ze_152_141, ze_152_143, ze_152_145, ze_152_148, ze_152_148_n, ze_152_150, ze_152_150_n, ze_152_152, ze_152_152_n, ze_152_152_s, ze_152_155, ze_152_158, ze_152_158_n, ze_152_159, ze_152_161, ze_152_162, ze_152_165, ze_152_167, ze_152_170, ze_152_170_n, ze_152_171, ze_152_173, ze_152_174, ze_152_177, ze_152_179, ze_152_182, ze_152_182_n, ze_152_183, ze_152_185, ze_152_186, ze_152_189, ze_152_189_n, ze_152_191, ze_152_192, ze_152_193, ze_152_196, ze_152_196_n, ze_152_197, ze_152_199, ze_152_200, ze_152_203, ze_152_203_n, ze_152_205, ze_152_206, ze_152_207, ze_152_210, ze_152_211, ze_152_212, ze_152_215, ze_152_218, ze_152_221, ze_152_224, ze_152_227, ze_152_227_n, ze_152_228, ze_152_229, ze_152_232, ze_152_233, ze_152_236, ze_152_236_n, ze_152_237, ze_152_238, ze_152_241, ze_152_242, ze_152_245, ze_152_245_n, ze_152_246, ze_152_248, ze_152_251, ze_152_253, ze_152_256, ze_152_256_n, ze_152_257, ze_152_260, ze_152_262, ze_152_265, ze_152_265_n, ze_152_266, ze_152_268, ze_152_269, ze_152_272, ze_152_273, ze_152_276, ze_152_277, ze_152_280, ze_152_281, z_k_r, z_push_s, z_push_n, okS_0, okS_I, okS_R, okS_A, List.getElem?_cons_zero, List.getElem?_cons_succ, List.length_cons, List.length_nil, List.set_cons_zero, List.set_cons_succ, true_and, and_true, z_tI, z_tB, pk_mul, nI_add, cI_cl, cI_ix, nar_0, nar_1, nar_b, Nat.reduceAdd, Nat.reduceLT, Nat.reduceMul]
      exact go)
    rw [ze_152_13]
    simp (disch := omega) only [ze_152_0, ze_152_1, ze_152_2, ze_152_3, ze_152_4, ze_152_5, ze_152_7, ze_152_8, ze_152_10, ze_152_11, ze_152_15, ze_152_15_n, ze_152_16, ze_152_19, ze_152_22, ze_152_22_n, ze_152_23, ze_152_25, ze_152_28, ze_152_31, ze_152_34, ze_152_35, ze_152_39, ze_152_39_n, ze_152_40, ze_152_43, ze_152_46, ze_152_46_n, ze_152_47, ze_152_49, ze_152_51, ze_152_54, ze_152_56, ze_152_56_n, ze_152_57, ze_152_59, ze_152_61, ze_152_64, ze_152_64_n, ze_152_65, ze_152_68, ze_152_70, ze_152_71, ze_152_73, ze_152_74, ze_152_77, ze_152_77_n, ze_152_78, ze_152_80, ze_152_82, ze_152_85, ze_152_85_n, ze_152_86, ze_152_89, ze_152_91, ze_152_92, ze_152_94, ze_152_95, ze_152_98, ze_152_98_n, ze_152_99, ze_152_101, ze_152_103, ze_152_106, ze_152_108, ze_152_111, ze_152_112, ze_152_113, ze_152_113_n, ze_152_114, ze_152_117, ze_152_119, ze_152_120, ze_152_122, ze_152_123, ze_152_126, ze_152_129, ze_152_132, ze_152_134, ze_152_137, ze_152_140, ze_152_140_n, ze_152_141, ze_152_143, ze_152_145, ze_152_148, ze_152_148_n, ze_152_150, ze_152_150_n, ze_152_152, ze_152_152_n, ze_152_152_s, ze_152_155, ze_152_158, ze_152_158_n, ze_152_159, ze_152_161, ze_152_162, ze_152_165, ze_152_167, ze_152_170, ze_152_170_n, ze_152_171, ze_152_173, ze_152_174, ze_152_177, ze_152_179, ze_152_182, ze_152_182_n, ze_152_183, ze_152_185, ze_152_186, ze_152_189, ze_152_189_n, ze_152_191, ze_152_192, ze_152_193, ze_152_196, ze_152_196_n, ze_152_197, ze_152_199, ze_152_200, ze_152_203, ze_152_203_n, ze_152_205, ze_152_206, ze_152_207, ze_152_210, ze_152_211, ze_152_212, ze_152_215, ze_152_218, ze_152_221, ze_152_224, ze_152_227, ze_152_227_n, ze_152_228, ze_152_229, ze_152_232, ze_152_233, ze_152_236, ze_152_236_n, ze_152_237, ze_152_238, ze_152_241, ze_152_242, ze_152_245, ze_152_245_n, ze_152_246, ze_152_248, ze_152_251, ze_152_253, ze_152_256, ze_152_256_n, ze_152_257, ze_152_260, ze_152_262, ze_152_265, ze_152_265_n, ze_152_266, ze_152_268, ze_152_269, ze_152_272, ze_152_273, ze_152_276, ze_152_277, ze_152_280, ze_152_281, z_k_r, z_push_s, z_push_n, okS_0, okS_I, okS_R, okS_A, List.getElem?_cons_zero, List.getElem?_cons_succ, List.length_cons, List.length_nil, List.set_cons_zero, List.set_cons_succ, true_and, and_true, z_tI, z_tB, pk_mul, nI_add, cI_cl, cI_ix, nar_0, nar_1, nar_b, Nat.reduceAdd, Nat.reduceLT, Nat.reduceMul, ↓lG_R, ↓lG_C, ↓lG_N, ↓lG_G, ↓lG_n, ↓lG_4, ↓lG_5, ↓lG_6, lG_o, ↓lG_q1, lG_q1, ↓lG_q2, lG_q2, ↓lG_q3, lG_q3, ↓lG_q4, lG_q4, ↓lG_a1, lG_a1, ↓lG_a2, lG_a2, ↓lG_a4, lG_a4, lH_R, lH_C, lH_N, lH_G, lH_n, lH_4, lH_5, lH_6, lH_q1, lH_q2, lH_q3, lH_q4, lH_a1, lH_a2, lH_a4, cI_lt, cI_eq, ↓reduceIte, if_true, if_false, Nat.lt_irrefl, eq_self, Nat.reduceEqDiff, or_true, true_or, or_false, false_or, not_false_eq_true, not_true_eq_false, ce_5, zb_t, zb_f, hr, hd0, ↓fl, zb_0]
    cases e : S.fl r
    · rw [e, Bool.toNat_false, Nat.add_zero] at w
      simp only [if_true]
      exact w _
    · rw [e, Bool.toNat_true] at w
      simp only [Bool.true_eq_false, if_false]
      exact w _
theorem l_cells {ga c : Nat} {h : z_H} (hg : GI S) (hd : 40 < d) (hL : LST S B Q ga c h) (hP : ∀ h', LST S B Q ga (c + 25) h' → P (.inr (some (.int (nI 1))), h')) : z_Ca g d 152 [.ref B, .ref Q] h P := by
  obtain ⟨f, X, N, x, y, tb, w, rfl, hCB, hb1, hb2, hN, hga, hx, hy⟩ := hL
  have hC := hg.C5
  have hR := hg.RC
  have go := l_cl2 (g := g) (d := d) (X := X) (P := P) (tb := tb) hg hd (by omega : B + 47 ≤ Q) S.R 0 f N x y 0 0 0 0 z_un z_un z_un (Nat.zero_add _) hCB hN rfl rfl rfl rfl (fun f' N' x' y' a b c e => hP _ ⟨f', X, N', x', y', tb, w, rfl, hCB.ag fun z h1 h2 => a z (by omega), hb1, hb2, by omega, (a ga (by omega)).trans hga, by omega, by omega⟩)
  rw [zn_152]
  simp (disch := omega) only [ze_152_0, ze_152_1, ze_152_2, ze_152_3, ze_152_4, ze_152_5, ze_152_7, ze_152_8, ze_152_10, ze_152_11, ze_152_15, ze_152_15_n, ze_152_16, ze_152_19, ze_152_22, ze_152_22_n, ze_152_23, ze_152_25, ze_152_28, ze_152_31, ze_152_34, ze_152_35, ze_152_37, ze_152_39, ze_152_39_n, ze_152_40, ze_152_43, ze_152_46, ze_152_46_n, ze_152_47, ze_152_49, ze_152_51, ze_152_54, ze_152_56, ze_152_56_n, ze_152_57, ze_152_59, ze_152_61, ze_152_64, ze_152_64_n, ze_152_65, ze_152_68, ze_152_70, ze_152_71, ze_152_73, ze_152_74, ze_152_77, ze_152_77_n, ze_152_78, ze_152_80, ze_152_82, ze_152_85, ze_152_85_n, ze_152_86, ze_152_89, ze_152_91, ze_152_92, ze_152_94, ze_152_95, ze_152_98, ze_152_98_n, ze_152_99, ze_152_101, ze_152_103, ze_152_106, ze_152_108, ze_152_111, ze_152_112, ze_152_113, ze_152_113_n, ze_152_114, ze_152_117, ze_152_119, ze_152_120, ze_152_122, ze_152_123, ze_152_126, ze_152_129, ze_152_132, ze_152_134, ze_152_137, ze_152_140, ze_152_140_n, ze_152_141, ze_152_143, ze_152_145, ze_152_148, ze_152_148_n, ze_152_150, ze_152_150_n, ze_152_152, ze_152_152_n, ze_152_152_s, ze_152_155, ze_152_158, ze_152_158_n, ze_152_159, ze_152_161, ze_152_162, ze_152_165, ze_152_167, ze_152_170, ze_152_170_n, ze_152_171, ze_152_173, ze_152_174, ze_152_177, ze_152_179, ze_152_182, ze_152_182_n, ze_152_183, ze_152_185, ze_152_186, ze_152_189, ze_152_189_n, ze_152_191, ze_152_192, ze_152_193, ze_152_196, ze_152_196_n, ze_152_197, ze_152_199, ze_152_200, ze_152_203, ze_152_203_n, ze_152_205, ze_152_206, ze_152_207, ze_152_210, ze_152_211, ze_152_212, ze_152_215, ze_152_218, ze_152_221, ze_152_224, ze_152_227, ze_152_227_n, ze_152_228, ze_152_229, ze_152_232, ze_152_233, ze_152_236, ze_152_236_n, ze_152_237, ze_152_238, ze_152_241, ze_152_242, ze_152_245, ze_152_245_n, ze_152_246, ze_152_248, ze_152_251, ze_152_253, ze_152_256, ze_152_256_n, ze_152_257, ze_152_260, ze_152_262, ze_152_265, ze_152_265_n, ze_152_266, ze_152_268, ze_152_269, ze_152_272, ze_152_273, ze_152_276, ze_152_277, ze_152_280, ze_152_281, z_k_r, z_push_s, z_push_n, okS_0, okS_I, okS_R, okS_A, List.getElem?_cons_zero, List.getElem?_cons_succ, List.length_cons, List.length_nil, List.set_cons_zero, List.set_cons_succ, true_and, and_true, z_tI, z_tB, pk_mul, nI_add, cI_cl, cI_ix, nar_0, nar_1, nar_b, Nat.reduceAdd, Nat.reduceLT, Nat.reduceMul]
  exact go
end
