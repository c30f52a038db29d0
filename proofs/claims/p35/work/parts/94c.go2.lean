/-! the law's Grid: all completions up to a limit -/
def GO (R C a L cnt add : Nat) (pa : Nat → Nat → Nat → Bool) (fo : Option (Nat → Nat)) (f : Nat → Option z_C) (N x y : Nat) (fi : Value) (p : Nat → Nat → Nat → Bool) (f' : Nat → Option z_C) (N' x' y' cnt' : Nat) (fi' : Value) (p' : Nat → Nat → Nat → Bool) : Prop :=
  cnt' = min L (cnt + add) ∧ SB f' a R C p' ∧ (cnt + add < L → ∀ r j s, r < R → j < C → s < 5 → p' r j s = (p r j s || pa r j s)) ∧ (∀ z, z < N → (z < a ∨ a + 1 + R ≤ z) → f' z = f z) ∧ N ≤ N' ∧ (cnt ≠ 0 ∨ add = 0 → fi' = fi ∧ x' = x ∧ y' = y) ∧ (x' ≤ x + 6 ∧ y' ≤ y + 30) ∧ (cnt = 0 → ∀ F, fo = some F → ∃ b : Nat, fi' = Value.ref b ∧ N ≤ b ∧ b + 1 + R ≤ N' ∧ FB f' b R C F)
def oO (o o' : Option (Nat → Nat)) : Option (Nat → Nat) := match o with
  | some x => some x
  | none => o'
theorem FB.ag {f f' : Nat → Option z_C} {b R C : Nat} {F : Nat → Nat} (h : FB f b R C F) (e : ∀ z, b ≤ z → z < b + 1 + R → f' z = f z) : FB f' b R C F :=
  ⟨(e b (by omega) (by omega)).trans h.1, fun r hr => (e _ (by omega) (by omega)).trans (h.2 r hr)⟩
theorem GO.tr {R C a L cnt add add2 : Nat} {pa pa2 : Nat → Nat → Nat → Bool} {fo fo2 : Option (Nat → Nat)} {f f1 f2 : Nat → Option z_C} {N x y N1 x1 y1 cnt1 N2 x2 y2 cnt2 : Nat} {fi fi1 fi2 : Value} {p p1 p2 : Nat → Nat → Nat → Bool} (hL : 1 ≤ L) (ha : a + 1 + R ≤ N) (hf : fo = none ↔ add = 0) (h1 : GO R C a L cnt add pa fo f N x y fi p f1 N1 x1 y1 cnt1 fi1 p1) (h2 : GO R C a L cnt1 add2 pa2 fo2 f1 N1 x1 y1 fi1 p1 f2 N2 x2 y2 cnt2 fi2 p2) : GO R C a L cnt (add + add2) (fun r j s => pa r j s || pa2 r j s) (oO fo fo2) f N x y fi p f2 N2 x2 y2 cnt2 fi2 p2 := by
  obtain ⟨a1, a2, a3, a4, a5, a6, a7, a8⟩ := h1
  obtain ⟨b1, b2, b3, b4, b5, b6, b7, b8⟩ := h2
  refine ⟨by omega, b2, fun hl r j s hr hj hs => ?_, fun z hz hz2 => ?_, by omega, fun h => ?_, ?_, fun h0 F hF => ?_⟩
  · rw [b3 (by omega) r j s hr hj hs, a3 (by omega) r j s hr hj hs, Bool.or_assoc]
  · rw [b4 z (by omega) hz2, a4 z hz hz2]
  · have c1 : cnt ≠ 0 ∨ add = 0 := by omega
    obtain ⟨d1, d2, d3⟩ := a6 c1
    obtain ⟨e1, e2, e3⟩ := b6 (by omega)
    exact ⟨e1.trans d1, e2.trans d2, e3.trans d3⟩
  · by_cases c : cnt1 ≠ 0
    · obtain ⟨e1, e2, e3⟩ := b6 (.inl c)
      omega
    · obtain ⟨d1, d2, d3⟩ := a6 (.inr (by omega))
      omega
  · cases fo with
    | some x =>
      have hx : x = F := Option.some.inj hF
      have hn : add ≠ 0 := fun z => nomatch hf.mpr z
      obtain ⟨b, q1, q2, q3, q4⟩ := a8 h0 x rfl
      obtain ⟨e1, e2, e3⟩ := b6 (.inl (by omega))
      refine ⟨b, e1.trans q1, q2, by omega, ?_⟩
      rw [← hx]
      exact q4.ag fun z z1 z2 => b4 z (by omega) (by omega)
    | none =>
      have hn : add = 0 := hf.mp rfl
      obtain ⟨d1, d2, d3⟩ := a6 (.inr hn)
      obtain ⟨b, q1, q2, q3, q4⟩ := b8 (by omega) F hF
      exact ⟨b, q1, by omega, q3, q4⟩
theorem GO.cg {R C a L cnt add add' : Nat} {pa pa' : Nat → Nat → Nat → Bool} {fo fo' : Option (Nat → Nat)} {f f1 : Nat → Option z_C} {N x y N1 x1 y1 cnt1 : Nat} {fi fi1 : Value} {p p1 : Nat → Nat → Nat → Bool} (h : GO R C a L cnt add pa fo f N x y fi p f1 N1 x1 y1 cnt1 fi1 p1) (h1 : add' = add) (h2 : fo' = fo) (h3 : ∀ r j s, r < R → j < C → s < 5 → pa' r j s = pa r j s) : GO R C a L cnt add' pa' fo' f N x y fi p f1 N1 x1 y1 cnt1 fi1 p1 := by
  subst h1 h2
  obtain ⟨a1, a2, a3, a4⟩ := h
  exact ⟨a1, a2, fun hl r j s hr hj hs => by rw [a3 hl r j s hr hj hs, h3 r j s hr hj hs], a4⟩
theorem GO.id {R C a L cnt : Nat} {pa : Nat → Nat → Nat → Bool} {f : Nat → Option z_C} {N x y : Nat} {fi : Value} {p : Nat → Nat → Nat → Bool} (hc : cnt ≤ L) (hS : SB f a R C p) (hp : cnt < L → ∀ r j s, pa r j s = false) : GO R C a L cnt 0 pa none f N x y fi p f N x y cnt fi p :=
  ⟨by omega, hS, fun h r j s _ _ _ => by rw [hp (by omega)]; simp, fun _ _ _ => rfl, Nat.le_refl _, fun _ => ⟨rfl, rfl, rfl⟩, ⟨by omega, by omega⟩, fun _ F hF => nomatch hF⟩
/-- the cells ahead of a place are filled -/
def AH (S : GS) (at_ : Nat) : Prop := ∀ r j, r < S.R → j < S.C → r * S.C + j < at_ → S.c (r * 5 + j) ≠ 5
section
variable {g : z_G} {Q a L : Nat} {fw th : Value}
theorem l_go1 {S : GS} (hg : GI S) {d at_ r j : Nat} (hd : 0 < d) (hr : r < S.R) (hj : j < S.C) (he : S.c (r * 5 + j) = 5) (hL : 1 ≤ L) (hL2 : L ≤ 1000) (hat : at_ < 30) (hN : Q + NL S ≤ a)
    (ih : ∀ (s cnt : Nat) (f : Nat → Option z_C) (N x y : Nat) (fi : Value) (p : Nat → Nat → Nat → Bool) (P : z_Res → Prop), S.cd r j s = true → cnt ≤ L → a + 1 + S.R ≤ N → SB f a S.R S.C p → (∀ f' N' x' y' cnt' fi' p', GO S.R S.C a L cnt (S.put r j s).cn (S.put r j s).pb (S.put r j s).fcO f N x y fi p f' N' x' y' cnt' fi' p' → P (.inr none, (lgw f' Q (S.put r j s) (nI cnt', fi', .ref a, fw, th), some N', x', y'))) → z_Ca g (d - 1) 99 [.ref Q, .int (nI (at_ + 1)), .int (nI L)] (lgw f Q (S.put r j s) (nI cnt, fi, .ref a, fw, th), some N, x, y) P) {P : z_Res → Prop} :
    ∀ (m s cnt : Nat) (f : Nat → Option z_C) (N x y : Nat) (fi : Value) (p : Nat → Nat → Nat → Bool), s + m = S.C → cnt ≤ L → a + 1 + S.R ≤ N → SB f a S.R S.C p →
      (∀ f' N' x' y' cnt' fi' p', GO S.R S.C a L cnt (sm (fun t => if S.cd r j t = true then (S.put r j t).cn else 0) s m) (fun r' j' s' => aF (fun t => S.cd r j t && (S.put r j t).pb r' j' s') s m) (fsO (fun t => if S.cd r j t = true then (S.put r j t).fcO else none) s m) f N x y fi p f' N' x' y' cnt' fi' p' → P (.inr none, (lgw f' Q S (nI cnt', fi', .ref a, fw, th), some N', x', y'))) →
      z_T g d 99 144 [.ref Q, .int (nI at_), .int (nI L), .int (nI r), .int (nI j), .int (nI s)] [] (lgw f Q S (nI cnt, fi, .ref a, fw, th), some N, x, y) P
  | 0, s, cnt, f, N, x, y, fi, p, h, hc, ha, hS, hP => by
    have hC := hg.C5
    have : s = S.C := by omega
    subst this
    have := hP f N x y cnt fi p (GO.id hc hS (fun _ _ _ _ => rfl))
    rw [ze_99_144]
    simp (disch := omega) only [ze_99_0, ze_99_0_n, ze_99_1, ze_99_4, ze_99_5, ze_99_8, ze_99_9, ze_99_10, ze_99_10_n, ze_99_11, ze_99_14, ze_99_14_n, ze_99_15, ze_99_18, ze_99_19, ze_99_22, ze_99_22_n, ze_99_23, ze_99_26, ze_99_29, ze_99_29_n, ze_99_30, ze_99_30_n, ze_99_31, ze_99_34, ze_99_34_n, ze_99_37, ze_99_37_n, ze_99_38, ze_99_38_i, ze_99_39, ze_99_42, ze_99_43, ze_99_44, ze_99_47, ze_99_48, ze_99_49, ze_99_50, ze_99_50_n, ze_99_51, ze_99_54, ze_99_57, ze_99_58, ze_99_60, ze_99_62, ze_99_62_n, ze_99_63, ze_99_66, ze_99_69, ze_99_69_n, ze_99_70, ze_99_73, ze_99_74, ze_99_75, ze_99_77, ze_99_78, ze_99_79, ze_99_80, ze_99_80_n, ze_99_81, ze_99_84, ze_99_85, ze_99_86, ze_99_88, ze_99_89, ze_99_90, ze_99_91, ze_99_92, ze_99_95, ze_99_98, ze_99_101, ze_99_104, ze_99_105, ze_99_106, ze_99_106_n, ze_99_107, ze_99_110, ze_99_111, ze_99_112, ze_99_113, ze_99_113_n, ze_99_114, ze_99_117, ze_99_118, ze_99_120, ze_99_120_n, ze_99_121, ze_99_124, ze_99_125, ze_99_126, ze_99_128, ze_99_129, ze_99_132, ze_99_132_n, ze_99_133, ze_99_134, ze_99_135, ze_99_136, ze_99_137, ze_99_140, ze_99_141, ze_99_142, ze_99_146, ze_99_146_n, ze_99_147, ze_99_150, ze_99_153, ze_99_153_n, ze_99_154, ze_99_155, ze_99_157, ze_99_159, ze_99_162, ze_99_165, ze_99_168, ze_99_168_n, ze_99_169, ze_99_172, ze_99_173, ze_99_174, ze_99_176, ze_99_178, ze_99_179, ze_99_179_n, ze_99_180, ze_99_181, ze_99_182, ze_99_183, ze_99_184, ze_99_187, ze_99_187_n, ze_99_188, ze_99_191, ze_99_192, ze_99_193, ze_99_195, ze_99_196, ze_99_197, ze_99_200, ze_99_203, z_k_r, z_push_s, z_push_n, okS_0, okS_I, okS_R, okS_A, List.getElem?_cons_zero, List.getElem?_cons_succ, List.length_cons, List.length_nil, List.set_cons_zero, List.set_cons_succ, true_and, and_true, z_tI, z_tB, pk_mul, nI_add, cI_cl, cI_ix, nar_0, nar_1, nar_b, Nat.reduceAdd, Nat.reduceLT, Nat.reduceMul, ↓lG_R, ↓lG_C, ↓lG_N, ↓lG_G, ↓lG_n, ↓lG_4, ↓lG_5, ↓lG_6, lG_o, ↓lG_q1, lG_q1, ↓lG_q2, lG_q2, ↓lG_q3, lG_q3, ↓lG_q4, lG_q4, ↓lG_a1, lG_a1, ↓lG_a2, lG_a2, ↓lG_a4, lG_a4, lH_R, lH_C, lH_N, lH_G, lH_n, lH_4, lH_5, lH_6, lH_q1, lH_q2, lH_q3, lH_q4, lH_a1, lH_a2, lH_a4, cI_lt, cI_eq, ↓reduceIte, if_true, if_false, Nat.lt_irrefl, eq_self, Nat.reduceEqDiff, or_true, true_or, or_false, false_or, not_false_eq_true, not_true_eq_false, ce_5, zb_t, zb_f]
    exact this
  | m + 1, s, cnt, f, N, x, y, fi, p, h, hc, ha, hS, hP => by
    have hC := hg.C5
    have hR := hg.RC
    have hs : s < S.C := by omega
    have cn := fun f q X P => l_can (g := g) (d := d - 1) (f := f) (q := q) (P := P) (Q := Q) (X := X) hg hr hj hs
    rw [ze_99_144]
    cases e : S.cd r j s
    · rw [e] at cn
      have go := l_go1 hg hd hr hj he hL hL2 hat hN ih (P := P) m (s + 1) cnt f N x y fi p (by omega) hc ha hS (fun f' N' x' y' cnt' fi' p' hG => hP f' N' x' y' cnt' fi' p' (hG.cg (by rw [sm_s, e]; simp) (by rw [fsO_n (by rw [e]; rfl)]) (fun r' j' s' _ _ _ => by rw [aF_s, e]; simp)))
      simp (disch := omega) only [ze_99_0, ze_99_0_n, ze_99_1, ze_99_4, ze_99_5, ze_99_8, ze_99_9, ze_99_10, ze_99_10_n, ze_99_11, ze_99_14, ze_99_14_n, ze_99_15, ze_99_18, ze_99_19, ze_99_22, ze_99_22_n, ze_99_23, ze_99_26, ze_99_29, ze_99_29_n, ze_99_30, ze_99_30_n, ze_99_31, ze_99_34, ze_99_34_n, ze_99_37, ze_99_37_n, ze_99_38, ze_99_38_i, ze_99_39, ze_99_42, ze_99_43, ze_99_44, ze_99_47, ze_99_48, ze_99_49, ze_99_50, ze_99_50_n, ze_99_51, ze_99_54, ze_99_57, ze_99_58, ze_99_60, ze_99_62, ze_99_62_n, ze_99_63, ze_99_66, ze_99_69, ze_99_69_n, ze_99_70, ze_99_73, ze_99_74, ze_99_75, ze_99_77, ze_99_78, ze_99_79, ze_99_80, ze_99_80_n, ze_99_81, ze_99_84, ze_99_85, ze_99_86, ze_99_88, ze_99_89, ze_99_90, ze_99_91, ze_99_92, ze_99_95, ze_99_98, ze_99_101, ze_99_104, ze_99_105, ze_99_106, ze_99_106_n, ze_99_107, ze_99_110, ze_99_111, ze_99_112, ze_99_113, ze_99_113_n, ze_99_114, ze_99_117, ze_99_118, ze_99_120, ze_99_120_n, ze_99_121, ze_99_124, ze_99_125, ze_99_126, ze_99_128, ze_99_129, ze_99_132, ze_99_132_n, ze_99_133, ze_99_134, ze_99_135, ze_99_136, ze_99_137, ze_99_140, ze_99_141, ze_99_142, ze_99_146, ze_99_146_n, ze_99_147, ze_99_150, ze_99_153, ze_99_153_n, ze_99_154, ze_99_155, ze_99_157, ze_99_159, ze_99_162, ze_99_165, ze_99_168, ze_99_168_n, ze_99_169, ze_99_172, ze_99_173, ze_99_174, ze_99_176, ze_99_178, ze_99_179, ze_99_179_n, ze_99_180, ze_99_181, ze_99_182, ze_99_183, ze_99_184, ze_99_187, ze_99_187_n, ze_99_188, ze_99_191, ze_99_192, ze_99_193, ze_99_195, ze_99_196, ze_99_197, ze_99_200, ze_99_203, z_k_r, z_push_s, z_push_n, okS_0, okS_I, okS_R, okS_A, List.getElem?_cons_zero, List.getElem?_cons_succ, List.length_cons, List.length_nil, List.set_cons_zero, List.set_cons_succ, true_and, and_true, z_tI, z_tB, pk_mul, nI_add, cI_cl, cI_ix, nar_0, nar_1, nar_b, Nat.reduceAdd, Nat.reduceLT, Nat.reduceMul, ↓lG_R, ↓lG_C, ↓lG_N, ↓lG_G, ↓lG_n, ↓lG_4, ↓lG_5, ↓lG_6, lG_o, ↓lG_q1, lG_q1, ↓lG_q2, lG_q2, ↓lG_q3, lG_q3, ↓lG_q4, lG_q4, ↓lG_a1, lG_a1, ↓lG_a2, lG_a2, ↓lG_a4, lG_a4, lH_R, lH_C, lH_N, lH_G, lH_n, lH_4, lH_5, lH_6, lH_q1, lH_q2, lH_q3, lH_q4, lH_a1, lH_a2, lH_a4, cI_lt, cI_eq, ↓reduceIte, if_true, if_false, Nat.lt_irrefl, eq_self, Nat.reduceEqDiff, or_true, true_or, or_false, false_or, not_false_eq_true, not_true_eq_false, ce_5, zb_t, zb_f, hs, hd, ↓cn]
      exact go
    · rw [e] at cn
      have pt := put_take (s := s) he
      have t1 := fun f q X K => lG_take f Q (S.put r j s) X q (r := r) (j := j) hr hj hC K
      have t0 := fun f q X K => lG_put f Q S X q (r := r) (j := j) (s := s) hr hj hC (by omega) K
      have t4 := fun f q X K => lG_4 f Q (S.put r j s) X q K
      have t5 := fun f q X K => lG_q1 f Q (S.put r j s) X q (r := r) hr (show S.R ≤ 5 by omega) K
      rw [pt] at t1
      simp (disch := omega) only [ze_99_0, ze_99_0_n, ze_99_1, ze_99_4, ze_99_5, ze_99_8, ze_99_9, ze_99_10, ze_99_10_n, ze_99_11, ze_99_14, ze_99_14_n, ze_99_15, ze_99_18, ze_99_19, ze_99_22, ze_99_22_n, ze_99_23, ze_99_26, ze_99_29, ze_99_29_n, ze_99_30, ze_99_30_n, ze_99_31, ze_99_34, ze_99_34_n, ze_99_37, ze_99_37_n, ze_99_38, ze_99_38_i, ze_99_39, ze_99_42, ze_99_43, ze_99_44, ze_99_47, ze_99_48, ze_99_49, ze_99_50, ze_99_50_n, ze_99_51, ze_99_54, ze_99_57, ze_99_58, ze_99_60, ze_99_62, ze_99_62_n, ze_99_63, ze_99_66, ze_99_69, ze_99_69_n, ze_99_70, ze_99_73, ze_99_74, ze_99_75, ze_99_77, ze_99_78, ze_99_79, ze_99_80, ze_99_80_n, ze_99_81, ze_99_84, ze_99_85, ze_99_86, ze_99_88, ze_99_89, ze_99_90, ze_99_91, ze_99_92, ze_99_95, ze_99_98, ze_99_101, ze_99_104, ze_99_105, ze_99_106, ze_99_106_n, ze_99_107, ze_99_110, ze_99_111, ze_99_112, ze_99_113, ze_99_113_n, ze_99_114, ze_99_117, ze_99_118, ze_99_120, ze_99_120_n, ze_99_121, ze_99_124, ze_99_125, ze_99_126, ze_99_128, ze_99_129, ze_99_132, ze_99_132_n, ze_99_133, ze_99_134, ze_99_135, ze_99_136, ze_99_137, ze_99_140, ze_99_141, ze_99_142, ze_99_146, ze_99_146_n, ze_99_147, ze_99_150, ze_99_153, ze_99_153_n, ze_99_154, ze_99_155, ze_99_157, ze_99_159, ze_99_162, ze_99_165, ze_99_168, ze_99_168_n, ze_99_169, ze_99_172, ze_99_173, ze_99_174, ze_99_176, ze_99_178, ze_99_179, ze_99_179_n, ze_99_180, ze_99_181, ze_99_182, ze_99_183, ze_99_184, ze_99_188, ze_99_191, ze_99_192, ze_99_193, ze_99_195, ze_99_196, ze_99_197, ze_99_200, ze_99_203, z_k_r, z_push_s, z_push_n, okS_0, okS_I, okS_R, okS_A, List.getElem?_cons_zero, List.getElem?_cons_succ, List.length_cons, List.length_nil, List.set_cons_zero, List.set_cons_succ, true_and, and_true, z_tI, z_tB, pk_mul, nI_add, cI_cl, cI_ix, nar_0, nar_1, nar_b, Nat.reduceAdd, Nat.reduceLT, Nat.reduceMul, ↓lG_R, ↓lG_C, ↓lG_N, ↓lG_G, ↓lG_n, ↓lG_4, ↓lG_5, ↓lG_6, lG_o, ↓lG_q1, lG_q1, ↓lG_q2, lG_q2, ↓lG_q3, lG_q3, ↓lG_q4, lG_q4, ↓lG_a1, lG_a1, ↓lG_a2, lG_a2, ↓lG_a4, lG_a4, lH_R, lH_C, lH_N, lH_G, lH_n, lH_4, lH_5, lH_6, lH_q1, lH_q2, lH_q3, lH_q4, lH_a1, lH_a2, lH_a4, cI_lt, cI_eq, ↓reduceIte, if_true, if_false, Nat.lt_irrefl, eq_self, Nat.reduceEqDiff, or_true, true_or, or_false, false_or, not_false_eq_true, not_true_eq_false, ce_5, zb_t, zb_f, hs, hd, ↓cn, ↓t0]
      exact ih s cnt f N x y fi p _ e hc ha hS (fun f1 N1 x1 y1 cnt1 fi1 p1 hG1 => by
        have g5 := hG1.2.2.2.2.1
        have gs := l_go1 hg hd hr hj he hL hL2 hat hN ih (P := P) m (s + 1) cnt1 f1 N1 x1 y1 fi1 p1 (by omega) (by rw [hG1.1]; exact Nat.min_le_left _ _) (by omega) hG1.2.1 (fun f2 N2 x2 y2 cnt2 fi2 p2 hG2 => hP f2 N2 x2 y2 cnt2 fi2 p2 ((GO.tr hL ha fc_none hG1 hG2).cg (by rw [sm_s, e]; rfl) (by
            cases e9 : (S.put r j s).fcO with
            | none => rw [fsO_n (by rw [e]; exact e9)]; rfl
            | some F => rw [fsO_s (x := F) (by rw [e]; exact e9)]; rfl) (fun r' j' s' _ _ _ => by rw [aF_s, e, Bool.true_and])))
        simp (disch := omega) only [ze_99_0, ze_99_0_n, ze_99_1, ze_99_4, ze_99_5, ze_99_8, ze_99_9, ze_99_10, ze_99_10_n, ze_99_11, ze_99_14, ze_99_14_n, ze_99_15, ze_99_18, ze_99_19, ze_99_22, ze_99_22_n, ze_99_23, ze_99_26, ze_99_29, ze_99_29_n, ze_99_30, ze_99_30_n, ze_99_31, ze_99_34, ze_99_34_n, ze_99_37, ze_99_37_n, ze_99_38, ze_99_38_i, ze_99_39, ze_99_42, ze_99_43, ze_99_44, ze_99_47, ze_99_48, ze_99_49, ze_99_50, ze_99_50_n, ze_99_51, ze_99_54, ze_99_57, ze_99_58, ze_99_60, ze_99_62, ze_99_62_n, ze_99_63, ze_99_66, ze_99_69, ze_99_69_n, ze_99_70, ze_99_73, ze_99_74, ze_99_75, ze_99_77, ze_99_78, ze_99_79, ze_99_80, ze_99_80_n, ze_99_81, ze_99_84, ze_99_85, ze_99_86, ze_99_88, ze_99_89, ze_99_90, ze_99_91, ze_99_92, ze_99_95, ze_99_98, ze_99_101, ze_99_104, ze_99_105, ze_99_106, ze_99_106_n, ze_99_107, ze_99_110, ze_99_111, ze_99_112, ze_99_113, ze_99_113_n, ze_99_114, ze_99_117, ze_99_118, ze_99_120, ze_99_120_n, ze_99_121, ze_99_124, ze_99_125, ze_99_126, ze_99_128, ze_99_129, ze_99_132, ze_99_132_n, ze_99_133, ze_99_134, ze_99_135, ze_99_136, ze_99_137, ze_99_140, ze_99_141, ze_99_142, ze_99_146, ze_99_146_n, ze_99_147, ze_99_150, ze_99_153, ze_99_153_n, ze_99_154, ze_99_155, ze_99_157, ze_99_159, ze_99_162, ze_99_165, ze_99_168, ze_99_168_n, ze_99_169, ze_99_172, ze_99_173, ze_99_174, ze_99_176, ze_99_178, ze_99_179, ze_99_179_n, ze_99_180, ze_99_181, ze_99_182, ze_99_183, ze_99_184, ze_99_187, ze_99_187_n, ze_99_188, ze_99_191, ze_99_192, ze_99_193, ze_99_195, ze_99_196, ze_99_197, ze_99_200, ze_99_203, z_k_r, z_push_s, z_push_n, okS_0, okS_I, okS_R, okS_A, List.getElem?_cons_zero, List.getElem?_cons_succ, List.length_cons, List.length_nil, List.set_cons_zero, List.set_cons_succ, true_and, and_true, z_tI, z_tB, pk_mul, nI_add, cI_cl, cI_ix, nar_0, nar_1, nar_b, Nat.reduceAdd, Nat.reduceLT, Nat.reduceMul, ↓t4, ↓t5, ↓t1]
        exact gs)
theorem at_dm {at_ R C : Nat} (h : at_ < R * C) : at_ / C < R ∧ at_ % C < C ∧ at_ / C * C + at_ % C = at_ := by
  have h0 : 0 < C := Nat.pos_of_ne_zero fun z => by subst z; simp at h
  refine ⟨Nat.div_lt_of_lt_mul (Nat.mul_comm R C ▸ h), Nat.mod_lt _ h0, ?_⟩
  rw [Nat.mul_comm]
  exact Nat.div_add_mod _ _
theorem RC_25 {S : GS} (hg : GI S) : S.R * S.C ≤ 25 := by
  have hC := hg.C5
  have hR := hg.RC
  exact Nat.le_trans (Nat.mul_le_mul (by omega : S.R ≤ 5) hC) (by omega)
theorem l_go (hL : 1 ≤ L) (hL2 : L ≤ 1000) : ∀ (n d at_ cnt : Nat) (S : GS) (f : Nat → Option z_C) (N x y : Nat) (fi : Value) (p : Nat → Nat → Nat → Bool) (P : z_Res → Prop), GI S → at_ + n = S.R * S.C → AH S at_ → n + 2 < d → cnt ≤ L → Q + NL S ≤ a → a + 1 + S.R ≤ N → SB f a S.R S.C p → (∀ f' N' x' y' cnt' fi' p', GO S.R S.C a L cnt S.cn S.pb S.fcO f N x y fi p f' N' x' y' cnt' fi' p' → P (.inr none, (lgw f' Q S (nI cnt', fi', .ref a, fw, th), some N', x', y'))) → z_Ca g d 99 [.ref Q, .int (nI at_), .int (nI L)] (lgw f Q S (nI cnt, fi, .ref a, fw, th), some N, x, y) P := by
  intro n
  induction n with
  | zero =>
    intro d at_ cnt S f N x y fi p P hg h hA hd hc hN ha hS hP
    have hC := hg.C5
    have hR := hg.RC
    have h25 := RC_25 hg
    have hat : at_ = S.R * S.C := by omega
    have hd0 : 0 < d := by omega
    have fu : ∀ r j, r < S.R → j < S.C → S.c (r * 5 + j) ≠ 5 := fun r j hr hj => hA r j hr hj (by
      have : (r + 1) * S.C ≤ S.R * S.C := Nat.mul_le_mul_right _ hr
      rw [Nat.add_mul] at this
      omega)
    have fu2 : ∀ k, k < 25 → ¬ (inR S.R S.C k = true ∧ S.c k = 5) := fun k hk z => by
      have := z.1
      rw [show k = k / 5 * 5 + k % 5 by omega, inR_at (by omega), Bool.and_eq_true, decide_eq_true_eq, decide_eq_true_eq] at this
      have w := fu _ _ this.1 this.2
      rw [show k / 5 * 5 + k % 5 = k by omega] at w
      exact w z.2
    have fu3 : ∀ r j, r < S.R → j < S.C → S.c (r * 5 + j) < 5 := fun r j hr hj => by
      have := hg.c5 (r * 5 + j)
      have := fu r j hr hj
      omega
    have c1 := cn_done fu2
    have fd := fc_done fu2
    have b1 : ∀ r j s, r < S.R → j < S.C → S.pb r j s = decide (s = S.c (r * 5 + j)) := fun r j s hr hj => pb_done c1 (fu r j hr hj)
    have mu : nI S.R * nI S.C = nI at_ := by rw [hat]; exact cI_mulN (by omega) (by omega)
    rw [zn_99]
    by_cases e : cnt = L
    · have := hP f N x y cnt fi p ⟨by omega, hS, fun z => by omega, fun _ _ _ => rfl, Nat.le_refl _, fun _ => ⟨rfl, rfl, rfl⟩, ⟨by omega, by omega⟩, fun z => by omega⟩
      simp (disch := omega) only [ze_99_0, ze_99_0_n, ze_99_1, ze_99_4, ze_99_5, ze_99_8, ze_99_9, ze_99_10, ze_99_10_n, ze_99_11, ze_99_14, ze_99_14_n, ze_99_15, ze_99_18, ze_99_19, ze_99_22, ze_99_22_n, ze_99_23, ze_99_26, ze_99_29, ze_99_29_n, ze_99_30, ze_99_30_n, ze_99_31, ze_99_34, ze_99_34_n, ze_99_37, ze_99_37_n, ze_99_38, ze_99_38_i, ze_99_39, ze_99_42, ze_99_43, ze_99_44, ze_99_47, ze_99_48, ze_99_49, ze_99_50, ze_99_50_n, ze_99_51, ze_99_54, ze_99_57, ze_99_58, ze_99_60, ze_99_62, ze_99_62_n, ze_99_63, ze_99_66, ze_99_69, ze_99_69_n, ze_99_70, ze_99_73, ze_99_74, ze_99_75, ze_99_77, ze_99_78, ze_99_79, ze_99_80, ze_99_80_n, ze_99_81, ze_99_84, ze_99_85, ze_99_86, ze_99_88, ze_99_89, ze_99_90, ze_99_91, ze_99_92, ze_99_95, ze_99_98, ze_99_101, ze_99_104, ze_99_105, ze_99_106, ze_99_106_n, ze_99_107, ze_99_110, ze_99_111, ze_99_112, ze_99_113, ze_99_113_n, ze_99_114, ze_99_117, ze_99_118, ze_99_120, ze_99_120_n, ze_99_121, ze_99_124, ze_99_125, ze_99_126, ze_99_128, ze_99_129, ze_99_132, ze_99_132_n, ze_99_133, ze_99_134, ze_99_135, ze_99_136, ze_99_137, ze_99_140, ze_99_141, ze_99_142, ze_99_146, ze_99_146_n, ze_99_147, ze_99_150, ze_99_153, ze_99_153_n, ze_99_154, ze_99_155, ze_99_157, ze_99_159, ze_99_162, ze_99_165, ze_99_168, ze_99_168_n, ze_99_169, ze_99_172, ze_99_173, ze_99_174, ze_99_176, ze_99_178, ze_99_179, ze_99_179_n, ze_99_180, ze_99_181, ze_99_182, ze_99_183, ze_99_184, ze_99_187, ze_99_187_n, ze_99_188, ze_99_191, ze_99_192, ze_99_193, ze_99_195, ze_99_196, ze_99_197, ze_99_200, ze_99_203, z_k_r, z_push_s, z_push_n, okS_0, okS_I, okS_R, okS_A, List.getElem?_cons_zero, List.getElem?_cons_succ, List.length_cons, List.length_nil, List.set_cons_zero, List.set_cons_succ, true_and, and_true, z_tI, z_tB, pk_mul, nI_add, cI_cl, cI_ix, nar_0, nar_1, nar_b, Nat.reduceAdd, Nat.reduceLT, Nat.reduceMul, ↓lG_R, ↓lG_C, ↓lG_N, ↓lG_G, ↓lG_n, ↓lG_4, ↓lG_5, ↓lG_6, lG_o, ↓lG_q1, lG_q1, ↓lG_q2, lG_q2, ↓lG_q3, lG_q3, ↓lG_q4, lG_q4, ↓lG_a1, lG_a1, ↓lG_a2, lG_a2, ↓lG_a4, lG_a4, lH_R, lH_C, lH_N, lH_G, lH_n, lH_4, lH_5, lH_6, lH_q1, lH_q2, lH_q3, lH_q4, lH_a1, lH_a2, lH_a4, cI_lt, cI_eq, ↓reduceIte, if_true, if_false, Nat.lt_irrefl, eq_self, Nat.reduceEqDiff, or_true, true_or, or_false, false_or, not_false_eq_true, not_true_eq_false, ce_5, zb_t, zb_f, e]
      rw [← e]
      exact this
    · by_cases e0 : cnt = 0
      · subst e0
        have eL : ¬ 0 = L := by omega
        simp (disch := omega) only [ze_99_0, ze_99_0_n, ze_99_1, ze_99_4, ze_99_5, ze_99_8, ze_99_9, ze_99_10, ze_99_10_n, ze_99_11, ze_99_14, ze_99_14_n, ze_99_15, ze_99_18, ze_99_19, ze_99_22, ze_99_22_n, ze_99_23, ze_99_26, ze_99_29, ze_99_29_n, ze_99_30, ze_99_30_n, ze_99_31, ze_99_37, ze_99_37_n, ze_99_38, ze_99_38_i, ze_99_39, ze_99_42, ze_99_43, ze_99_44, ze_99_47, ze_99_48, ze_99_50, ze_99_50_n, ze_99_51, ze_99_54, ze_99_57, ze_99_58, ze_99_60, ze_99_62, ze_99_62_n, ze_99_63, ze_99_66, ze_99_69, ze_99_69_n, ze_99_70, ze_99_73, ze_99_74, ze_99_75, ze_99_77, ze_99_78, ze_99_79, ze_99_80, ze_99_80_n, ze_99_81, ze_99_84, ze_99_85, ze_99_86, ze_99_88, ze_99_89, ze_99_90, ze_99_91, ze_99_92, ze_99_95, ze_99_98, ze_99_101, ze_99_104, ze_99_105, ze_99_106, ze_99_106_n, ze_99_107, ze_99_110, ze_99_111, ze_99_112, ze_99_113, ze_99_113_n, ze_99_114, ze_99_117, ze_99_118, ze_99_120, ze_99_120_n, ze_99_121, ze_99_124, ze_99_125, ze_99_126, ze_99_128, ze_99_129, ze_99_132, ze_99_132_n, ze_99_133, ze_99_134, ze_99_135, ze_99_136, ze_99_137, ze_99_140, ze_99_141, ze_99_142, ze_99_146, ze_99_146_n, ze_99_147, ze_99_150, ze_99_153, ze_99_153_n, ze_99_154, ze_99_155, ze_99_157, ze_99_159, ze_99_162, ze_99_165, ze_99_168, ze_99_168_n, ze_99_169, ze_99_172, ze_99_173, ze_99_174, ze_99_176, ze_99_178, ze_99_179, ze_99_179_n, ze_99_180, ze_99_181, ze_99_182, ze_99_183, ze_99_184, ze_99_187, ze_99_187_n, ze_99_188, ze_99_191, ze_99_192, ze_99_193, ze_99_195, ze_99_196, ze_99_197, ze_99_200, ze_99_203, z_k_r, z_push_s, z_push_n, okS_0, okS_I, okS_R, okS_A, List.getElem?_cons_zero, List.getElem?_cons_succ, List.length_cons, List.length_nil, List.set_cons_zero, List.set_cons_succ, true_and, and_true, z_tI, z_tB, pk_mul, nI_add, cI_cl, cI_ix, nar_0, nar_1, nar_b, Nat.reduceAdd, Nat.reduceLT, Nat.reduceMul, ↓lG_R, ↓lG_C, ↓lG_N, ↓lG_G, ↓lG_n, ↓lG_4, ↓lG_5, ↓lG_6, lG_o, ↓lG_q1, lG_q1, ↓lG_q2, lG_q2, ↓lG_q3, lG_q3, ↓lG_q4, lG_q4, ↓lG_a1, lG_a1, ↓lG_a2, lG_a2, ↓lG_a4, lG_a4, lH_R, lH_C, lH_N, lH_G, lH_n, lH_4, lH_5, lH_6, lH_q1, lH_q2, lH_q3, lH_q4, lH_a1, lH_a2, lH_a4, cI_lt, cI_eq, ↓reduceIte, if_true, if_false, Nat.lt_irrefl, eq_self, Nat.reduceEqDiff, or_true, true_or, or_false, false_or, not_false_eq_true, not_true_eq_false, ce_5, zb_t, zb_f, eL, mu, hd0]
        exact l_copy (g := g) (d := d - 1) (Q := Q) (S := S) (X := (nI 0, fi, .ref a, fw, th)) (f := f) (N := N) (x := x) (y := y) hg (by omega) (fun f1 k1 k2 => by
          have hS1 : SB f1 a S.R S.C p := ⟨by rw [k1 a (by omega)]; exact hS.1, fun r hr => by rw [k1 _ (by omega)]; exact hS.2 r hr⟩
          have w := l_see2 (g := g) (d := d) (P := P) (n := nI (0 + 1)) (fi := .ref N) (fw := fw) (th := th) (u := .int (nI at_)) (w := .int (nI L)) (v5 := z_un) (q := (some (N + 1 + S.R), x + 1 + S.R, y + S.R + S.R * S.C)) hg hN fu3 S.R 0 z_un f1 p (Nat.zero_add _) hS1 (fun f2 p2 m1 m2 m3 => hP f2 (N + 1 + S.R) (x + 1 + S.R) (y + S.R + S.R * S.C) (0 + 1) (.ref N) p2 ⟨by omega, m1, fun _ r j s hr hj hs => by rw [m2 r j s hs hj hr, b1 r j s hr hj]; simp, fun z hz hz2 => by rw [m3 z hz2, k1 z hz], by omega, fun z => by omega, ⟨by omega, by omega⟩, fun _ F hF => ⟨N, rfl, Nat.le_refl _, Nat.le_refl _, by
            rw [fd] at hF
            rw [← Option.some.inj hF]
            exact k2.ag fun z z1 z2 => m3 z (by omega)⟩⟩)
          have p8 := fun f q n v K => lG_p8 f Q S (n, fi, .ref a, fw, th) q v K
          have pn := fun f q n v K => lG_pn f Q S (n, .ref N, .ref a, fw, th) q v K
          simp (disch := omega) only [ze_99_0, ze_99_0_n, ze_99_1, ze_99_4, ze_99_5, ze_99_8, ze_99_9, ze_99_10, ze_99_10_n, ze_99_11, ze_99_14, ze_99_14_n, ze_99_15, ze_99_18, ze_99_19, ze_99_22, ze_99_22_n, ze_99_23, ze_99_26, ze_99_29, ze_99_29_n, ze_99_30, ze_99_30_n, ze_99_31, ze_99_34, ze_99_34_n, ze_99_37, ze_99_37_n, ze_99_38, ze_99_38_i, ze_99_39, ze_99_42, ze_99_43, ze_99_44, ze_99_47, ze_99_48, ze_99_50, ze_99_50_n, ze_99_51, ze_99_54, ze_99_57, ze_99_58, ze_99_60, ze_99_62, ze_99_62_n, ze_99_63, ze_99_66, ze_99_69, ze_99_69_n, ze_99_70, ze_99_73, ze_99_74, ze_99_75, ze_99_77, ze_99_78, ze_99_79, ze_99_80, ze_99_80_n, ze_99_81, ze_99_84, ze_99_85, ze_99_86, ze_99_88, ze_99_89, ze_99_90, ze_99_91, ze_99_92, ze_99_95, ze_99_98, ze_99_101, ze_99_104, ze_99_105, ze_99_106, ze_99_106_n, ze_99_107, ze_99_110, ze_99_111, ze_99_112, ze_99_113, ze_99_113_n, ze_99_114, ze_99_117, ze_99_118, ze_99_120, ze_99_120_n, ze_99_121, ze_99_124, ze_99_125, ze_99_126, ze_99_128, ze_99_129, ze_99_132, ze_99_132_n, ze_99_133, ze_99_134, ze_99_135, ze_99_136, ze_99_137, ze_99_140, ze_99_141, ze_99_142, ze_99_146, ze_99_146_n, ze_99_147, ze_99_150, ze_99_153, ze_99_153_n, ze_99_154, ze_99_155, ze_99_157, ze_99_159, ze_99_162, ze_99_165, ze_99_168, ze_99_168_n, ze_99_169, ze_99_172, ze_99_173, ze_99_174, ze_99_176, ze_99_178, ze_99_179, ze_99_179_n, ze_99_180, ze_99_181, ze_99_182, ze_99_183, ze_99_184, ze_99_187, ze_99_187_n, ze_99_188, ze_99_191, ze_99_192, ze_99_193, ze_99_195, ze_99_196, ze_99_197, ze_99_200, ze_99_203, z_k_r, z_push_s, z_push_n, okS_0, okS_I, okS_R, okS_A, List.getElem?_cons_zero, List.getElem?_cons_succ, List.length_cons, List.length_nil, List.set_cons_zero, List.set_cons_succ, true_and, and_true, z_tI, z_tB, pk_mul, nI_add, cI_cl, cI_ix, nar_0, nar_1, nar_b, Nat.reduceAdd, Nat.reduceLT, Nat.reduceMul, ↓lG_R, ↓lG_C, ↓lG_N, ↓lG_G, ↓lG_n, ↓lG_4, ↓lG_5, ↓lG_6, lG_o, ↓lG_q1, lG_q1, ↓lG_q2, lG_q2, ↓lG_q3, lG_q3, ↓lG_q4, lG_q4, ↓lG_a1, lG_a1, ↓lG_a2, lG_a2, ↓lG_a4, lG_a4, lH_R, lH_C, lH_N, lH_G, lH_n, lH_4, lH_5, lH_6, lH_q1, lH_q2, lH_q3, lH_q4, lH_a1, lH_a2, lH_a4, cI_lt, cI_eq, ↓reduceIte, if_true, if_false, Nat.lt_irrefl, eq_self, Nat.reduceEqDiff, or_true, true_or, or_false, false_or, not_false_eq_true, not_true_eq_false, ce_5, zb_t, zb_f, ↓p8, ↓pn]
          exact w)
      · have pn := fun f q n v K => lG_pn f Q S (n, fi, .ref a, fw, th) q v K
        have w := l_see2 (g := g) (d := d) (P := P) (n := nI (cnt + 1)) (fi := fi) (fw := fw) (th := th) (u := .int (nI at_)) (w := .int (nI L)) (v5 := z_un) (q := (some N, x, y)) hg hN fu3 S.R 0 z_un f p (Nat.zero_add _) hS (fun f2 p2 m1 m2 m3 => hP f2 N x y (cnt + 1) fi p2 ⟨by omega, m1, fun _ r j s hr hj hs => by rw [m2 r j s hs hj hr, b1 r j s hr hj]; simp, fun z hz hz2 => m3 z hz2, Nat.le_refl _, fun _ => ⟨rfl, rfl, rfl⟩, ⟨by omega, by omega⟩, fun z => by omega⟩)
        simp (disch := omega) only [ze_99_0, ze_99_0_n, ze_99_1, ze_99_4, ze_99_5, ze_99_8, ze_99_9, ze_99_10, ze_99_10_n, ze_99_11, ze_99_14, ze_99_14_n, ze_99_15, ze_99_18, ze_99_19, ze_99_22, ze_99_22_n, ze_99_23, ze_99_26, ze_99_29, ze_99_29_n, ze_99_30, ze_99_30_n, ze_99_31, ze_99_34, ze_99_34_n, ze_99_37, ze_99_37_n, ze_99_38, ze_99_38_i, ze_99_39, ze_99_42, ze_99_43, ze_99_44, ze_99_47, ze_99_48, ze_99_50, ze_99_50_n, ze_99_51, ze_99_54, ze_99_57, ze_99_58, ze_99_60, ze_99_62, ze_99_62_n, ze_99_63, ze_99_66, ze_99_69, ze_99_69_n, ze_99_70, ze_99_73, ze_99_74, ze_99_75, ze_99_77, ze_99_78, ze_99_79, ze_99_80, ze_99_80_n, ze_99_81, ze_99_84, ze_99_85, ze_99_86, ze_99_88, ze_99_89, ze_99_90, ze_99_91, ze_99_92, ze_99_95, ze_99_98, ze_99_101, ze_99_104, ze_99_105, ze_99_106, ze_99_106_n, ze_99_107, ze_99_110, ze_99_111, ze_99_112, ze_99_113, ze_99_113_n, ze_99_114, ze_99_117, ze_99_118, ze_99_120, ze_99_120_n, ze_99_121, ze_99_124, ze_99_125, ze_99_126, ze_99_128, ze_99_129, ze_99_132, ze_99_132_n, ze_99_133, ze_99_134, ze_99_135, ze_99_136, ze_99_137, ze_99_140, ze_99_141, ze_99_142, ze_99_146, ze_99_146_n, ze_99_147, ze_99_150, ze_99_153, ze_99_153_n, ze_99_154, ze_99_155, ze_99_157, ze_99_159, ze_99_162, ze_99_165, ze_99_168, ze_99_168_n, ze_99_169, ze_99_172, ze_99_173, ze_99_174, ze_99_176, ze_99_178, ze_99_179, ze_99_179_n, ze_99_180, ze_99_181, ze_99_182, ze_99_183, ze_99_184, ze_99_187, ze_99_187_n, ze_99_188, ze_99_191, ze_99_192, ze_99_193, ze_99_195, ze_99_196, ze_99_197, ze_99_200, ze_99_203, z_k_r, z_push_s, z_push_n, okS_0, okS_I, okS_R, okS_A, List.getElem?_cons_zero, List.getElem?_cons_succ, List.length_cons, List.length_nil, List.set_cons_zero, List.set_cons_succ, true_and, and_true, z_tI, z_tB, pk_mul, nI_add, cI_cl, cI_ix, nar_0, nar_1, nar_b, Nat.reduceAdd, Nat.reduceLT, Nat.reduceMul, ↓lG_R, ↓lG_C, ↓lG_N, ↓lG_G, ↓lG_n, ↓lG_4, ↓lG_5, ↓lG_6, lG_o, ↓lG_q1, lG_q1, ↓lG_q2, lG_q2, ↓lG_q3, lG_q3, ↓lG_q4, lG_q4, ↓lG_a1, lG_a1, ↓lG_a2, lG_a2, ↓lG_a4, lG_a4, lH_R, lH_C, lH_N, lH_G, lH_n, lH_4, lH_5, lH_6, lH_q1, lH_q2, lH_q3, lH_q4, lH_a1, lH_a2, lH_a4, cI_lt, cI_eq, ↓reduceIte, if_true, if_false, Nat.lt_irrefl, eq_self, Nat.reduceEqDiff, or_true, true_or, or_false, false_or, not_false_eq_true, not_true_eq_false, ce_5, zb_t, zb_f, e, e0, mu, ↓pn]
        exact w
  | succ n ih =>
    intro d at_ cnt S f N x y fi p P hg h hA hd hc hN ha hS hP
    have hC := hg.C5
    have hC2 := hg.C2
    have hR := hg.RC
    have h25 := RC_25 hg
    have hd0 : 0 < d := by omega
    have hlt : at_ < S.R * S.C := by omega
    obtain ⟨hr, hj, hrj⟩ := at_dm hlt
    obtain ⟨r, er⟩ : ∃ r, r = at_ / S.C := ⟨_, rfl⟩
    obtain ⟨j, ej⟩ : ∃ j, j = at_ % S.C := ⟨_, rfl⟩
    rw [← er] at hr hrj
    rw [← ej] at hj hrj
    have mu : nI S.R * nI S.C = nI (S.R * S.C) := cI_mulN (by omega) (by omega)
    have ne : ¬ at_ = S.R * S.C := by omega
    have dv : nI at_ / nI S.C = nI r := by rw [er]; exact cI_div (by omega) (by omega) (by omega)
    have md : nI at_ - nI at_ / nI S.C * nI S.C = nI j := by rw [ej]; exact z_mod (by omega) (by omega)
    rw [dv, pk_mul] at md
    have c0 : ¬ S.C = 0 := by omega
    have e5 := ce_neg (hg.c5 (r * 5 + j))
    have eqA : ∀ r' j', r' < S.R → j' < S.C → r' * S.C + j' < at_ + 1 → r' * S.C + j' < at_ ∨ (r' = r ∧ j' = j) := fun r' j' hr' hj' hl => by
      by_cases z : r' * S.C + j' < at_
      · exact .inl z
      · have z2 : r' * S.C + j' = r * S.C + j := by omega
        have a1 := dm_a (r := r') (x := j') (M := S.C) hj'
        have a2 := dm_a (r := r) (x := j) (M := S.C) hj
        rw [z2] at a1
        exact .inr ⟨a1.2.symm.trans a2.2, a1.1.symm.trans a2.1⟩
    rw [zn_99]
    by_cases e : cnt = L
    · have := hP f N x y cnt fi p ⟨by omega, hS, fun z => by omega, fun _ _ _ => rfl, Nat.le_refl _, fun _ => ⟨rfl, rfl, rfl⟩, ⟨by omega, by omega⟩, fun z => by omega⟩
      simp (disch := omega) only [ze_99_0, ze_99_0_n, ze_99_1, ze_99_4, ze_99_5, ze_99_8, ze_99_9, ze_99_10, ze_99_10_n, ze_99_11, ze_99_14, ze_99_14_n, ze_99_15, ze_99_18, ze_99_19, ze_99_22, ze_99_22_n, ze_99_23, ze_99_26, ze_99_29, ze_99_29_n, ze_99_30, ze_99_30_n, ze_99_31, ze_99_34, ze_99_34_n, ze_99_37, ze_99_37_n, ze_99_38, ze_99_38_i, ze_99_39, ze_99_42, ze_99_43, ze_99_44, ze_99_47, ze_99_48, ze_99_49, ze_99_50, ze_99_50_n, ze_99_51, ze_99_54, ze_99_57, ze_99_58, ze_99_60, ze_99_62, ze_99_62_n, ze_99_63, ze_99_66, ze_99_69, ze_99_69_n, ze_99_70, ze_99_73, ze_99_74, ze_99_75, ze_99_77, ze_99_78, ze_99_79, ze_99_80, ze_99_80_n, ze_99_81, ze_99_84, ze_99_85, ze_99_86, ze_99_88, ze_99_89, ze_99_90, ze_99_91, ze_99_92, ze_99_95, ze_99_98, ze_99_101, ze_99_104, ze_99_105, ze_99_106, ze_99_106_n, ze_99_107, ze_99_110, ze_99_111, ze_99_112, ze_99_113, ze_99_113_n, ze_99_114, ze_99_117, ze_99_118, ze_99_120, ze_99_120_n, ze_99_121, ze_99_124, ze_99_125, ze_99_126, ze_99_128, ze_99_129, ze_99_132, ze_99_132_n, ze_99_133, ze_99_134, ze_99_135, ze_99_136, ze_99_137, ze_99_140, ze_99_141, ze_99_142, ze_99_146, ze_99_146_n, ze_99_147, ze_99_150, ze_99_153, ze_99_153_n, ze_99_154, ze_99_155, ze_99_157, ze_99_159, ze_99_162, ze_99_165, ze_99_168, ze_99_168_n, ze_99_169, ze_99_172, ze_99_173, ze_99_174, ze_99_176, ze_99_178, ze_99_179, ze_99_179_n, ze_99_180, ze_99_181, ze_99_182, ze_99_183, ze_99_184, ze_99_187, ze_99_187_n, ze_99_188, ze_99_191, ze_99_192, ze_99_193, ze_99_195, ze_99_196, ze_99_197, ze_99_200, ze_99_203, z_k_r, z_push_s, z_push_n, okS_0, okS_I, okS_R, okS_A, List.getElem?_cons_zero, List.getElem?_cons_succ, List.length_cons, List.length_nil, List.set_cons_zero, List.set_cons_succ, true_and, and_true, z_tI, z_tB, pk_mul, nI_add, cI_cl, cI_ix, nar_0, nar_1, nar_b, Nat.reduceAdd, Nat.reduceLT, Nat.reduceMul, ↓lG_R, ↓lG_C, ↓lG_N, ↓lG_G, ↓lG_n, ↓lG_4, ↓lG_5, ↓lG_6, lG_o, ↓lG_q1, lG_q1, ↓lG_q2, lG_q2, ↓lG_q3, lG_q3, ↓lG_q4, lG_q4, ↓lG_a1, lG_a1, ↓lG_a2, lG_a2, ↓lG_a4, lG_a4, lH_R, lH_C, lH_N, lH_G, lH_n, lH_4, lH_5, lH_6, lH_q1, lH_q2, lH_q3, lH_q4, lH_a1, lH_a2, lH_a4, cI_lt, cI_eq, ↓reduceIte, if_true, if_false, Nat.lt_irrefl, eq_self, Nat.reduceEqDiff, or_true, true_or, or_false, false_or, not_false_eq_true, not_true_eq_false, ce_5, zb_t, zb_f, e]
      rw [← e]
      exact this
    · by_cases f5 : S.c (r * 5 + j) = 5
      · have hb : ∀ k, k < r * 5 + j → ¬ (inR S.R S.C k = true ∧ S.c k = 5) := fun k hk z => by
          have := z.1
          rw [show k = k / 5 * 5 + k % 5 by omega, inR_at (by omega), Bool.and_eq_true, decide_eq_true_eq, decide_eq_true_eq] at this
          have w := hA _ _ this.1 this.2 (by
            by_cases y : k / 5 = r
            · rw [y]; omega
            · have : (k / 5 + 1) * S.C ≤ r * S.C := Nat.mul_le_mul_right _ (by omega)
              rw [Nat.add_mul] at this
              omega)
          rw [show k / 5 * 5 + k % 5 = k by omega] at w
          exact w z.2
        have w := l_go1 (g := g) (Q := Q) (a := a) (L := L) (fw := fw) (th := th) hg (d := d) (at_ := at_) hd0 hr hj f5 hL hL2 (by omega) hN (fun s cnt f N x y fi p P hs hc ha hS hP => ih (d - 1) (at_ + 1) cnt (S.put r j s) f N x y fi p P (GI_put hg hr hj hs) (show at_ + 1 + n = S.R * S.C by omega) (fun r' j' hr' hj' hl => by
          rcases eqA r' j' hr' hj' hl with z | ⟨rfl, rfl⟩
          · show nu S.c (r * 5 + j) s (r' * 5 + j') ≠ 5
            by_cases y : r' * 5 + j' = r * 5 + j
            · rw [y, nu_s]
              have := cd_lt2 hs
              omega
            · rw [nu_n y]
              exact hA r' j' hr' hj' z
          · show nu S.c (r' * 5 + j') s (r' * 5 + j') ≠ 5
            rw [nu_s]
            have := cd_lt2 hs
            omega) (by omega) hc hN ha hS hP) (P := P) S.C 0 cnt f N x y fi p (Nat.zero_add _) hc ha hS (fun f' N' x' y' cnt' fi' p' hG => hP f' N' x' y' cnt' fi' p' (hG.cg (cn_split hg hr hj f5) (fc_split hr hj hC (by omega) f5 hb) (fun r' j' s' hr' hj' _ => by rw [aF_any]; exact pb_split hg hr hj f5 hr' hj')))
        simp (disch := omega) only [ze_99_0, ze_99_0_n, ze_99_1, ze_99_4, ze_99_5, ze_99_8, ze_99_9, ze_99_10, ze_99_10_n, ze_99_11, ze_99_14, ze_99_14_n, ze_99_15, ze_99_18, ze_99_19, ze_99_22, ze_99_22_n, ze_99_23, ze_99_26, ze_99_29, ze_99_29_n, ze_99_30, ze_99_30_n, ze_99_31, ze_99_34, ze_99_34_n, ze_99_37, ze_99_37_n, ze_99_38, ze_99_38_i, ze_99_39, ze_99_42, ze_99_43, ze_99_44, ze_99_47, ze_99_48, ze_99_50, ze_99_50_n, ze_99_51, ze_99_54, ze_99_57, ze_99_58, ze_99_60, ze_99_62, ze_99_62_n, ze_99_63, ze_99_66, ze_99_69, ze_99_69_n, ze_99_70, ze_99_73, ze_99_74, ze_99_75, ze_99_77, ze_99_78, ze_99_79, ze_99_80, ze_99_80_n, ze_99_81, ze_99_84, ze_99_85, ze_99_86, ze_99_88, ze_99_89, ze_99_90, ze_99_91, ze_99_92, ze_99_95, ze_99_98, ze_99_101, ze_99_104, ze_99_105, ze_99_106, ze_99_106_n, ze_99_107, ze_99_110, ze_99_111, ze_99_112, ze_99_113, ze_99_113_n, ze_99_114, ze_99_117, ze_99_118, ze_99_120, ze_99_120_n, ze_99_121, ze_99_124, ze_99_125, ze_99_126, ze_99_128, ze_99_129, ze_99_132, ze_99_132_n, ze_99_133, ze_99_134, ze_99_135, ze_99_136, ze_99_137, ze_99_140, ze_99_141, ze_99_142, ze_99_146, ze_99_146_n, ze_99_147, ze_99_150, ze_99_153, ze_99_153_n, ze_99_154, ze_99_155, ze_99_157, ze_99_159, ze_99_162, ze_99_165, ze_99_168, ze_99_168_n, ze_99_169, ze_99_172, ze_99_173, ze_99_174, ze_99_176, ze_99_178, ze_99_179, ze_99_179_n, ze_99_180, ze_99_181, ze_99_182, ze_99_183, ze_99_184, ze_99_187, ze_99_187_n, ze_99_188, ze_99_191, ze_99_192, ze_99_193, ze_99_195, ze_99_196, ze_99_197, ze_99_200, ze_99_203, z_k_r, z_push_s, z_push_n, okS_0, okS_I, okS_R, okS_A, List.getElem?_cons_zero, List.getElem?_cons_succ, List.length_cons, List.length_nil, List.set_cons_zero, List.set_cons_succ, true_and, and_true, z_tI, z_tB, pk_mul, nI_add, cI_cl, cI_ix, nar_0, nar_1, nar_b, Nat.reduceAdd, Nat.reduceLT, Nat.reduceMul, ↓lG_R, ↓lG_C, ↓lG_N, ↓lG_G, ↓lG_n, ↓lG_4, ↓lG_5, ↓lG_6, lG_o, ↓lG_q1, lG_q1, ↓lG_q2, lG_q2, ↓lG_q3, lG_q3, ↓lG_q4, lG_q4, ↓lG_a1, lG_a1, ↓lG_a2, lG_a2, ↓lG_a4, lG_a4, lH_R, lH_C, lH_N, lH_G, lH_n, lH_4, lH_5, lH_6, lH_q1, lH_q2, lH_q3, lH_q4, lH_a1, lH_a2, lH_a4, cI_lt, cI_eq, ↓reduceIte, if_true, if_false, Nat.lt_irrefl, eq_self, Nat.reduceEqDiff, or_true, true_or, or_false, false_or, not_false_eq_true, not_true_eq_false, ce_5, zb_t, zb_f, e, mu, ne, dv, md, c0, e5]
        rw [if_pos f5]
        exact w
      · simp (disch := omega) only [ze_99_0, ze_99_0_n, ze_99_1, ze_99_4, ze_99_5, ze_99_8, ze_99_9, ze_99_10, ze_99_10_n, ze_99_11, ze_99_14, ze_99_14_n, ze_99_15, ze_99_18, ze_99_19, ze_99_22, ze_99_22_n, ze_99_23, ze_99_26, ze_99_29, ze_99_29_n, ze_99_30, ze_99_30_n, ze_99_31, ze_99_34, ze_99_34_n, ze_99_37, ze_99_37_n, ze_99_38, ze_99_38_i, ze_99_39, ze_99_42, ze_99_43, ze_99_44, ze_99_47, ze_99_48, ze_99_50, ze_99_50_n, ze_99_51, ze_99_54, ze_99_57, ze_99_58, ze_99_60, ze_99_62, ze_99_62_n, ze_99_63, ze_99_66, ze_99_69, ze_99_69_n, ze_99_70, ze_99_73, ze_99_74, ze_99_75, ze_99_77, ze_99_78, ze_99_79, ze_99_80, ze_99_80_n, ze_99_81, ze_99_84, ze_99_85, ze_99_86, ze_99_88, ze_99_89, ze_99_90, ze_99_91, ze_99_92, ze_99_95, ze_99_98, ze_99_101, ze_99_104, ze_99_105, ze_99_106, ze_99_106_n, ze_99_107, ze_99_110, ze_99_111, ze_99_112, ze_99_113, ze_99_113_n, ze_99_114, ze_99_117, ze_99_118, ze_99_120, ze_99_120_n, ze_99_121, ze_99_124, ze_99_125, ze_99_126, ze_99_128, ze_99_129, ze_99_132, ze_99_132_n, ze_99_133, ze_99_134, ze_99_135, ze_99_136, ze_99_137, ze_99_141, ze_99_142, ze_99_146, ze_99_146_n, ze_99_147, ze_99_150, ze_99_153, ze_99_153_n, ze_99_154, ze_99_155, ze_99_157, ze_99_159, ze_99_162, ze_99_165, ze_99_168, ze_99_168_n, ze_99_169, ze_99_172, ze_99_173, ze_99_174, ze_99_176, ze_99_178, ze_99_179, ze_99_179_n, ze_99_180, ze_99_181, ze_99_182, ze_99_183, ze_99_184, ze_99_187, ze_99_187_n, ze_99_188, ze_99_191, ze_99_192, ze_99_193, ze_99_195, ze_99_196, ze_99_197, ze_99_200, ze_99_203, z_k_r, z_push_s, z_push_n, okS_0, okS_I, okS_R, okS_A, List.getElem?_cons_zero, List.getElem?_cons_succ, List.length_cons, List.length_nil, List.set_cons_zero, List.set_cons_succ, true_and, and_true, z_tI, z_tB, pk_mul, nI_add, cI_cl, cI_ix, nar_0, nar_1, nar_b, Nat.reduceAdd, Nat.reduceLT, Nat.reduceMul, ↓lG_R, ↓lG_C, ↓lG_N, ↓lG_G, ↓lG_n, ↓lG_4, ↓lG_5, ↓lG_6, lG_o, ↓lG_q1, lG_q1, ↓lG_q2, lG_q2, ↓lG_q3, lG_q3, ↓lG_q4, lG_q4, ↓lG_a1, lG_a1, ↓lG_a2, lG_a2, ↓lG_a4, lG_a4, lH_R, lH_C, lH_N, lH_G, lH_n, lH_4, lH_5, lH_6, lH_q1, lH_q2, lH_q3, lH_q4, lH_a1, lH_a2, lH_a4, cI_lt, cI_eq, ↓reduceIte, if_true, if_false, Nat.lt_irrefl, eq_self, Nat.reduceEqDiff, or_true, true_or, or_false, false_or, not_false_eq_true, not_true_eq_false, ce_5, zb_t, zb_f, e, mu, ne, dv, md, c0, e5, f5, hd0]
        exact ih (d - 1) (at_ + 1) cnt S f N x y fi p _ hg (by omega) (fun r' j' hr' hj' hl => by
          rcases eqA r' j' hr' hj' hl with z | ⟨rfl, rfl⟩
          · exact hA r' j' hr' hj' z
          · exact f5) (by omega) hc hN ha hS (fun f' N' x' y' cnt' fi' p' hG => by
            have := hP f' N' x' y' cnt' fi' p' hG
            simp (disch := omega) only [ze_99_0, ze_99_0_n, ze_99_1, ze_99_4, ze_99_5, ze_99_8, ze_99_9, ze_99_10, ze_99_10_n, ze_99_11, ze_99_14, ze_99_14_n, ze_99_15, ze_99_18, ze_99_19, ze_99_22, ze_99_22_n, ze_99_23, ze_99_26, ze_99_29, ze_99_29_n, ze_99_30, ze_99_30_n, ze_99_31, ze_99_34, ze_99_34_n, ze_99_37, ze_99_37_n, ze_99_38, ze_99_38_i, ze_99_39, ze_99_42, ze_99_43, ze_99_44, ze_99_47, ze_99_48, ze_99_50, ze_99_50_n, ze_99_51, ze_99_54, ze_99_57, ze_99_58, ze_99_60, ze_99_62, ze_99_62_n, ze_99_63, ze_99_66, ze_99_69, ze_99_69_n, ze_99_70, ze_99_73, ze_99_74, ze_99_75, ze_99_77, ze_99_78, ze_99_79, ze_99_80, ze_99_80_n, ze_99_81, ze_99_84, ze_99_85, ze_99_86, ze_99_88, ze_99_89, ze_99_90, ze_99_91, ze_99_92, ze_99_95, ze_99_98, ze_99_101, ze_99_104, ze_99_105, ze_99_106, ze_99_106_n, ze_99_107, ze_99_110, ze_99_111, ze_99_112, ze_99_113, ze_99_113_n, ze_99_114, ze_99_117, ze_99_118, ze_99_120, ze_99_120_n, ze_99_121, ze_99_124, ze_99_125, ze_99_126, ze_99_128, ze_99_129, ze_99_132, ze_99_132_n, ze_99_133, ze_99_134, ze_99_135, ze_99_136, ze_99_137, ze_99_140, ze_99_141, ze_99_142, ze_99_146, ze_99_146_n, ze_99_147, ze_99_150, ze_99_153, ze_99_153_n, ze_99_154, ze_99_155, ze_99_157, ze_99_159, ze_99_162, ze_99_165, ze_99_168, ze_99_168_n, ze_99_169, ze_99_172, ze_99_173, ze_99_174, ze_99_176, ze_99_178, ze_99_179, ze_99_179_n, ze_99_180, ze_99_181, ze_99_182, ze_99_183, ze_99_184, ze_99_187, ze_99_187_n, ze_99_188, ze_99_191, ze_99_192, ze_99_193, ze_99_195, ze_99_196, ze_99_197, ze_99_200, ze_99_203, z_k_r, z_push_s, z_push_n, okS_0, okS_I, okS_R, okS_A, List.getElem?_cons_zero, List.getElem?_cons_succ, List.length_cons, List.length_nil, List.set_cons_zero, List.set_cons_succ, true_and, and_true, z_tI, z_tB, pk_mul, nI_add, cI_cl, cI_ix, nar_0, nar_1, nar_b, Nat.reduceAdd, Nat.reduceLT, Nat.reduceMul]
            exact this)
end
