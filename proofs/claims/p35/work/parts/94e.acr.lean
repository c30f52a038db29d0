/-! the law's Grid: transversals -/
def TB (f : Nat → Option z_C) (b R C : Nat) (t : Nat → Nat → Nat) : Prop := f b = some (lo .int R (fun i => b + 1 + i)) ∧ ∀ r, r < R → f (b + 1 + r) = some (inA C (arr C fun j => nI (t r j)))
def GT (R C b w r add : Nat) (th : Nat → Nat → Nat) (fo : Option (Nat → Nat)) (f : Nat → Option z_C) (N x y : Nat) (fw : Value) (t : Nat → Nat → Nat) (G : Nat → Int32) (f' : Nat → Option z_C) (N' x' y' : Nat) (fw' : Value) (t' : Nat → Nat → Nat) (G' : Nat → Int32) : Prop :=
  f' w = some (inA R G') ∧ (∀ i, i < r → G' i = G i) ∧ TB f' b R C t' ∧ (∀ r' j', r' < R → j' < C → t' r' j' = t r' j' + th r' j') ∧ (∀ z, z < N → z ≠ w → (z < b ∨ b + 1 + R ≤ z) → f' z = f z) ∧ N ≤ N' ∧ (fw ≠ .null ∨ add = 0 → fw' = fw ∧ x' = x ∧ y' = y) ∧ (x' ≤ x + 1 ∧ y' ≤ y + 5) ∧ (fw = .null → ∀ F, fo = some F → ∃ q : Nat, fw' = .ref q ∧ N ≤ q ∧ q < N' ∧ ∃ H, f' q = some (inA R H) ∧ ∀ i, i < R → H i = nI (F i))
theorem GT.tr {R C b w r add add2 : Nat} {th th2 : Nat → Nat → Nat} {fo fo2 : Option (Nat → Nat)} {f f1 f2 : Nat → Option z_C} {N x y N1 x1 y1 N2 x2 y2 : Nat} {fw fw1 fw2 : Value} {t t1 t2 : Nat → Nat → Nat} {G G1 G2 : Nat → Int32} (hb : b + 1 + R ≤ N) (hw : w < N) (hf : fo = none ↔ add = 0) (h1 : GT R C b w r add th fo f N x y fw t G f1 N1 x1 y1 fw1 t1 G1) (h2 : GT R C b w r add2 th2 fo2 f1 N1 x1 y1 fw1 t1 G1 f2 N2 x2 y2 fw2 t2 G2) : GT R C b w r (add + add2) (fun r' j' => th r' j' + th2 r' j') (oO fo fo2) f N x y fw t G f2 N2 x2 y2 fw2 t2 G2 := by
  obtain ⟨a1, a2, a3, a4, a5, a6, a7, a8, a9⟩ := h1
  obtain ⟨b1, b2, b3, b4, b5, b6, b7, b8, b9⟩ := h2
  refine ⟨b1, fun i hi => (b2 i hi).trans (a2 i hi), b3, fun r' j' hr hj => by rw [b4 r' j' hr hj, a4 r' j' hr hj, Nat.add_assoc], fun z hz hz1 hz2 => ?_, by omega, fun h => ?_, ?_, fun h0 F hF => ?_⟩
  · rw [b5 z (by omega) hz1 hz2, a5 z hz hz1 hz2]
  · rcases h with h | h
    · obtain ⟨d1, d2, d3⟩ := a7 (.inl h)
      obtain ⟨e1, e2, e3⟩ := b7 (.inl (by rw [d1]; exact h))
      exact ⟨e1.trans d1, e2.trans d2, e3.trans d3⟩
    · obtain ⟨d1, d2, d3⟩ := a7 (.inr (by omega))
      obtain ⟨e1, e2, e3⟩ := b7 (.inr (by omega))
      exact ⟨e1.trans d1, e2.trans d2, e3.trans d3⟩
  · by_cases c : fw1 = .null
    · by_cases c0 : fw = .null
      · cases fo with
        | none =>
          obtain ⟨d1, d2, d3⟩ := a7 (.inr (hf.mp rfl))
          omega
        | some F =>
          obtain ⟨q, q1, -⟩ := a9 c0 F rfl
          rw [c] at q1
          cases q1
      · obtain ⟨d1, d2, d3⟩ := a7 (.inl c0)
        omega
    · obtain ⟨e1, e2, e3⟩ := b7 (.inl c)
      omega
  · cases fo with
    | some x =>
      have hx : x = F := Option.some.inj hF
      obtain ⟨q, q1, q2, q3, H, q4, q5⟩ := a9 h0 x rfl
      obtain ⟨e1, e2, e3⟩ := b7 (.inl (by rw [q1]; exact fun z => nomatch z))
      rw [← hx]
      exact ⟨q, e1.trans q1, q2, by omega, H, (b5 q q3 (by omega) (by omega)).trans q4, q5⟩
    | none =>
      obtain ⟨d1, d2, d3⟩ := a7 (.inr (hf.mp rfl))
      obtain ⟨q, q1, q2, q3, H, q4, q5⟩ := b9 (d1.trans h0) F hF
      exact ⟨q, q1, by omega, q3, H, q4, q5⟩
theorem GT.cg {R C b w r add add' : Nat} {th th' : Nat → Nat → Nat} {fo fo' : Option (Nat → Nat)} {f f1 : Nat → Option z_C} {N x y N1 x1 y1 : Nat} {fw fw1 : Value} {t t1 : Nat → Nat → Nat} {G G1 : Nat → Int32} (h : GT R C b w r add th fo f N x y fw t G f1 N1 x1 y1 fw1 t1 G1) (h1 : add' = add) (h2 : fo' = fo) (h3 : ∀ r' j', r' < R → j' < C → th' r' j' = th r' j') : GT R C b w r add' th' fo' f N x y fw t G f1 N1 x1 y1 fw1 t1 G1 := by
  subst h1 h2
  obtain ⟨a1, a2, a3, a4, a5⟩ := h
  exact ⟨a1, a2, a3, fun r' j' hr hj => by rw [a4 r' j' hr hj, h3 r' j' hr hj], a5⟩
/-- one row less is kept -/
theorem GT.up {R C b w r add : Nat} {th : Nat → Nat → Nat} {fo : Option (Nat → Nat)} {f f0 f1 : Nat → Option z_C} {N x y N1 x1 y1 : Nat} {fw fw1 : Value} {t t1 : Nat → Nat → Nat} {G G0 G1 : Nat → Int32} (h : GT R C b w (r + 1) add th fo f N x y fw t G f1 N1 x1 y1 fw1 t1 G1) (hf : ∀ z, z ≠ w → f z = f0 z) (hG : ∀ i, i < r → G i = G0 i) : GT R C b w r add th fo f0 N x y fw t G0 f1 N1 x1 y1 fw1 t1 G1 := by
  obtain ⟨a1, a2, a3, a4, a5, a6⟩ := h
  exact ⟨a1, fun i hi => (a2 i (by omega)).trans (hG i hi), a3, a4, fun z z1 z2 z3 => (a5 z z1 z2 z3).trans (hf z z2), a6⟩
/-- what the ways ahead of a row have used -/
def WU (S : GS) (r : Nat) (W : Nat → Nat) (bz us : Nat → Bool) : Prop := (∀ i, i < r → W i < S.C ∧ S.c (i * 5 + W i) < 5) ∧ (∀ c, c < 5 → (bz c = true ↔ ∃ i, i < r ∧ W i = c)) ∧ (∀ s, s < 5 → (us s = true ↔ ∃ i, i < r ∧ S.c (i * 5 + W i) = s))
section
variable {g : z_G} {Q b w : Nat} {S : GS} {n0 : Int32} {fi se : Value}
/-- the leaf: the counts go up -/
theorem l_ac0 {d : Nat} {P : z_Res → Prop} {fw : Value} {q : Option Nat × Nat × Nat} {W : Nat → Nat} {G : Nat → Int32} {u : Value} {v4 v5 v6 : Value} (hg : GI S) (hN : Q + NL S ≤ b) (hw : Q + NL S ≤ w) (hwb : w < b ∨ b + 1 + S.R ≤ w) (hW : ∀ i, i < S.R → W i < S.C) (hG : ∀ i, i < S.R → G i = nI (W i)) : ∀ (k i : Nat) (f : Nat → Option z_C) (t : Nat → Nat → Nat), i + k = S.R → f w = some (inA S.R G) → TB f b S.R S.C t → (∀ f' t', f' w = some (inA S.R G) → TB f' b S.R S.C t' → (∀ r' j', r' < S.R → j' < S.C → t' r' j' = t r' j' + if i ≤ r' ∧ W r' = j' then 1 else 0) → (∀ z, (z < b ∨ b + 1 + S.R ≤ z) → f' z = f z) → P (.inr (some (.int (nI 1))), (lgw f' Q S (n0, fi, se, fw, .ref b), q))) → z_T g d 102 28 [.ref Q, u, .ref w, .int (nI i), v4, v5, v6] [] (lgw f Q S (n0, fi, se, fw, .ref b), q) P
  | 0, i, f, t, h, h1, h2, hP => by
    have hC := hg.C5
    have hR := hg.RC
    have : i = S.R := by omega
    subst this
    have := hP f t h1 h2 (fun r' j' hr _ => by rw [if_neg (fun z => by omega)]; rfl) (fun _ _ => rfl)
    rw [ze_102_28]
    simp (disch := omega) only [ze_102_0, ze_102_1, ze_102_1_n, ze_102_2, ze_102_5, ze_102_8, ze_102_8_n, ze_102_9, ze_102_12, ze_102_12_n, ze_102_12_s, ze_102_15, ze_102_15_n, ze_102_16, ze_102_16_n, ze_102_17, ze_102_20, ze_102_23, ze_102_23_n, ze_102_26, ze_102_27, ze_102_29, ze_102_29_n, ze_102_30, ze_102_33, ze_102_36, ze_102_36_n, ze_102_37, ze_102_40, ze_102_41, ze_102_42, ze_102_42_n, ze_102_43, ze_102_44, ze_102_45, ze_102_46, ze_102_47, ze_102_48, ze_102_49, ze_102_50, ze_102_53, ze_102_56, ze_102_57, ze_102_58, ze_102_59, ze_102_60, ze_102_61, ze_102_63, ze_102_65, ze_102_65_n, ze_102_66, ze_102_69, ze_102_72, ze_102_72_n, ze_102_73, ze_102_76, ze_102_77, ze_102_78, ze_102_80, ze_102_81, ze_102_84, ze_102_85, ze_102_88, ze_102_89, ze_102_91, ze_102_92, ze_102_94, ze_102_96, ze_102_97, ze_102_100, ze_102_100_n, ze_102_101, ze_102_103, ze_102_104, ze_102_106, ze_102_109, ze_102_109_n, ze_102_110, ze_102_113, ze_102_115, ze_102_116, ze_102_116_n, ze_102_117, ze_102_119, ze_102_120, ze_102_121, ze_102_121_n, ze_102_122, ze_102_125, ze_102_126, ze_102_127, ze_102_129, ze_102_130, ze_102_133, ze_102_134, ze_102_136, ze_102_139, ze_102_142, ze_102_144, ze_102_147, ze_102_150, ze_102_150_n, ze_102_151, ze_102_152, ze_102_154, ze_102_155, ze_102_156, ze_102_156_n, ze_102_157, ze_102_158, ze_102_159, ze_102_160, ze_102_160_n, ze_102_161, ze_102_164, ze_102_165, ze_102_166, ze_102_169, ze_102_172, ze_102_173, z_k_r, z_push_s, z_push_n, okS_0, okS_I, okS_R, okS_A, List.getElem?_cons_zero, List.getElem?_cons_succ, List.length_cons, List.length_nil, List.set_cons_zero, List.set_cons_succ, true_and, and_true, z_tI, z_tB, pk_mul, nI_add, cI_cl, cI_ix, nar_0, nar_1, nar_b, Nat.reduceAdd, Nat.reduceLT, Nat.reduceMul, ↓lG_R, ↓lG_C, ↓lG_N, ↓lG_G, ↓lG_n, ↓lG_4, ↓lG_5, ↓lG_6, lG_o, ↓lG_q1, lG_q1, ↓lG_q2, lG_q2, ↓lG_q3, lG_q3, ↓lG_q4, lG_q4, ↓lG_a1, lG_a1, ↓lG_a2, lG_a2, ↓lG_a4, lG_a4, lH_R, lH_C, lH_N, lH_G, lH_n, lH_4, lH_5, lH_6, lH_q1, lH_q2, lH_q3, lH_q4, lH_a1, lH_a2, lH_a4, cI_lt, cI_eq, ↓reduceIte, if_true, if_false, Nat.lt_irrefl, eq_self, Nat.reduceEqDiff, or_true, true_or, or_false, false_or, not_false_eq_true, not_true_eq_false, ce_5, zb_t, zb_f]
    exact this
  | k + 1, i, f, t, h, h1, h2, hP => by
    have hC := hg.C5
    have hR := hg.RC
    have hi : i < S.R := by omega
    have hWi := hW i hi
    have g11 := fun K => lG_11 f Q S (n0, fi, se, fw, .ref b) q rfl K
    have q1 : ∀ (K : Nat → Prop), z_qL (lgw f Q S (n0, fi, se, fw, .ref b)) b (nI i) K = K (b + 1 + i) := fun K => by
      rw [th_qL (by omega)]
      simp (disch := omega) only [z_qL, h2.1, lo, z_tQ, true_and, cI_ix, cI_cl, hi, if_true]
    have w1 : ∀ (K : Int32 → Prop), z_aL (lgw f Q S (n0, fi, se, fw, .ref b)) w z_tI (nI i) K = K (nI (W i)) := fun K => by
      rw [th_aL (by omega), iA_L h1 hi (by omega), hG i hi]
    have a1 : ∀ (K : Int32 → Prop), z_aL (lgw f Q S (n0, fi, se, fw, .ref b)) (b + 1 + i) z_tI (nI (W i)) K = K (nI (t i (W i))) := fun K => by
      rw [th_aL (by omega), iA_L (h2.2 i hi) hWi (by omega), arr_at _ hWi]
    have s1 : ∀ (v : Int32) (K : (Nat → Option z_C) → Prop), z_aS (lgw f Q S (n0, fi, se, fw, .ref b)) (b + 1 + i) z_tI (nI (W i)) v K = K (lgw (z_up f (b + 1 + i) (inA S.C (upd (arr S.C fun j => nI (t i j)) (W i) v))) Q S (n0, fi, se, fw, .ref b)) := fun v K => by
      rw [th_aS (by omega), iA_S' (h2.2 i hi) hWi (by omega)]
    obtain ⟨t1, ht1⟩ : ∃ t1 : Nat → Nat → Nat, t1 = fun r' j' => t r' j' + if r' = i ∧ W r' = j' then 1 else 0 := ⟨_, rfl⟩
    have hT1 : TB (z_up f (b + 1 + i) (inA S.C (upd (arr S.C fun j => nI (t i j)) (W i) (nI (t i (W i) + 1))))) b S.R S.C t1 := by
      refine ⟨by rw [z_up_ne (by omega)]; exact h2.1, fun r' hr' => ?_⟩
      by_cases e : r' = i
      · subst e
        rw [z_up_self, arr_upd _ _ hWi]
        refine congrArg (fun z => some (inA S.C (arr S.C z))) (upd_fn ?_ (fun j hj => ?_))
        · rw [ht1]
          simp
        · rw [ht1]
          show nI (t r' j + if r' = r' ∧ W r' = j then 1 else 0) = nI (t r' j)
          rw [if_neg (fun z => hj z.2.symm)]
          rfl
      · rw [z_up_ne (by omega), h2.2 r' hr', ht1]
        simp [e]
    have go := l_ac0 (d := d) (u := u) (v4 := v4) (v5 := v5) (v6 := v6) (fw := fw) (q := q) hg hN hw hwb hW hG k (i + 1) _ t1 (by omega) (by rw [z_up_ne (by omega)]; exact h1) hT1 (fun f' t' b1 b2 b3 b4 => hP f' t' b1 b2 (fun r' j' hr hj => by
      rw [b3 r' j' hr hj, ht1]
      show t r' j' + (if r' = i ∧ W r' = j' then 1 else 0) + _ = _
      by_cases e : r' = i
      · subst e
        rw [if_neg (fun z => by omega : ¬ (r' + 1 ≤ r' ∧ W r' = j'))]
        by_cases e2 : W r' = j'
        · rw [if_pos ⟨rfl, e2⟩, if_pos ⟨Nat.le_refl _, e2⟩]
        · rw [if_neg (fun z => e2 z.2), if_neg (fun z => e2 z.2)]
      · rw [if_neg (fun z => e z.1)]
        by_cases e2 : i ≤ r' ∧ W r' = j'
        · rw [if_pos e2, if_pos ⟨by omega, e2.2⟩]
        · rw [if_neg e2, if_neg (fun z => e2 ⟨by omega, z.2⟩)]) (fun z hz => by rw [b4 z hz, z_up_ne (by omega)]))
    rw [ze_102_28]
    simp (disch := omega) only [ze_102_0, ze_102_1, ze_102_1_n, ze_102_2, ze_102_5, ze_102_8, ze_102_8_n, ze_102_9, ze_102_12, ze_102_12_n, ze_102_12_s, ze_102_15, ze_102_15_n, ze_102_16, ze_102_16_n, ze_102_17, ze_102_20, ze_102_23, ze_102_23_n, ze_102_26, ze_102_27, ze_102_29, ze_102_29_n, ze_102_30, ze_102_33, ze_102_36, ze_102_36_n, ze_102_37, ze_102_40, ze_102_41, ze_102_42, ze_102_42_n, ze_102_43, ze_102_44, ze_102_45, ze_102_46, ze_102_47, ze_102_48, ze_102_49, ze_102_50, ze_102_53, ze_102_56, ze_102_57, ze_102_58, ze_102_59, ze_102_60, ze_102_61, ze_102_63, ze_102_65, ze_102_65_n, ze_102_66, ze_102_69, ze_102_72, ze_102_72_n, ze_102_73, ze_102_76, ze_102_77, ze_102_78, ze_102_80, ze_102_81, ze_102_84, ze_102_85, ze_102_88, ze_102_89, ze_102_91, ze_102_92, ze_102_94, ze_102_96, ze_102_97, ze_102_100, ze_102_100_n, ze_102_101, ze_102_103, ze_102_104, ze_102_106, ze_102_109, ze_102_109_n, ze_102_110, ze_102_113, ze_102_115, ze_102_116, ze_102_116_n, ze_102_117, ze_102_119, ze_102_120, ze_102_121, ze_102_121_n, ze_102_122, ze_102_125, ze_102_126, ze_102_127, ze_102_129, ze_102_130, ze_102_133, ze_102_134, ze_102_136, ze_102_139, ze_102_142, ze_102_144, ze_102_147, ze_102_150, ze_102_150_n, ze_102_151, ze_102_152, ze_102_154, ze_102_155, ze_102_156, ze_102_156_n, ze_102_157, ze_102_158, ze_102_159, ze_102_160, ze_102_160_n, ze_102_161, ze_102_164, ze_102_165, ze_102_166, ze_102_169, ze_102_172, ze_102_173, z_k_r, z_push_s, z_push_n, okS_0, okS_I, okS_R, okS_A, List.getElem?_cons_zero, List.getElem?_cons_succ, List.length_cons, List.length_nil, List.set_cons_zero, List.set_cons_succ, true_and, and_true, z_tI, z_tB, pk_mul, nI_add, cI_cl, cI_ix, nar_0, nar_1, nar_b, Nat.reduceAdd, Nat.reduceLT, Nat.reduceMul, ↓lG_R, ↓lG_C, ↓lG_N, ↓lG_G, ↓lG_n, ↓lG_4, ↓lG_5, ↓lG_6, lG_o, ↓lG_q1, lG_q1, ↓lG_q2, lG_q2, ↓lG_q3, lG_q3, ↓lG_q4, lG_q4, ↓lG_a1, lG_a1, ↓lG_a2, lG_a2, ↓lG_a4, lG_a4, lH_R, lH_C, lH_N, lH_G, lH_n, lH_4, lH_5, lH_6, lH_q1, lH_q2, lH_q3, lH_q4, lH_a1, lH_a2, lH_a4, cI_lt, cI_eq, ↓reduceIte, if_true, if_false, Nat.lt_irrefl, eq_self, Nat.reduceEqDiff, or_true, true_or, or_false, false_or, not_false_eq_true, not_true_eq_false, ce_5, zb_t, zb_f, hi, ↓g11, q1, w1, a1, s1]
    exact go
/-- is a cell free of the ways -/
theorem l_acf {d : Nat} {P : z_Res → Prop} {X : LX} {q : Option Nat × Nat × Nat} {W : Nat → Nat} {G : Nat → Int32} {f : Nat → Option z_C} {r c : Nat} {v3 : Value} (hg : GI S) (hw : Q + NL S ≤ w) (h1 : f w = some (inA S.R G)) (hr : r < S.R) (hc : c < S.C) (hW : ∀ i, i < r → W i < S.C) (hG : ∀ i, i < r → G i = nI (W i)) : ∀ (k i : Nat) (b0 : Bool), i + k = r → z_T g d 102 94 [.ref Q, .int (nI r), .ref w, v3, .int (nI c), .int (zb b0), .int (nI i)] [] (lgw f Q S X, q) P = z_T g d 102 142 [.ref Q, .int (nI r), .ref w, v3, .int (nI c), .int (zb (b0 && !aF (fun i => decide (W i = c ∨ S.c (i * 5 + W i) = S.c (r * 5 + c))) i k)), .int (nI r)] [] (lgw f Q S X, q) P
  | 0, i, b0, h => by
    have hC := hg.C5
    have hR := hg.RC
    have : i = r := by omega
    subst this
    rw [ze_102_94, aF_z, Bool.not_false, Bool.and_true]
    simp (disch := omega) only [ze_102_0, ze_102_1, ze_102_1_n, ze_102_2, ze_102_5, ze_102_8, ze_102_8_n, ze_102_9, ze_102_12, ze_102_12_n, ze_102_12_s, ze_102_15, ze_102_15_n, ze_102_16, ze_102_16_n, ze_102_17, ze_102_20, ze_102_23, ze_102_23_n, ze_102_26, ze_102_27, ze_102_28, ze_102_29, ze_102_29_n, ze_102_30, ze_102_33, ze_102_36, ze_102_36_n, ze_102_37, ze_102_40, ze_102_41, ze_102_42, ze_102_42_n, ze_102_43, ze_102_44, ze_102_45, ze_102_46, ze_102_47, ze_102_48, ze_102_49, ze_102_50, ze_102_53, ze_102_56, ze_102_57, ze_102_58, ze_102_59, ze_102_60, ze_102_61, ze_102_63, ze_102_65, ze_102_65_n, ze_102_66, ze_102_69, ze_102_72, ze_102_72_n, ze_102_73, ze_102_76, ze_102_77, ze_102_78, ze_102_80, ze_102_81, ze_102_84, ze_102_85, ze_102_88, ze_102_89, ze_102_91, ze_102_92, ze_102_96, ze_102_97, ze_102_100, ze_102_100_n, ze_102_101, ze_102_103, ze_102_104, ze_102_106, ze_102_109, ze_102_109_n, ze_102_110, ze_102_113, ze_102_115, ze_102_116, ze_102_116_n, ze_102_117, ze_102_119, ze_102_120, ze_102_121, ze_102_121_n, ze_102_122, ze_102_125, ze_102_126, ze_102_127, ze_102_129, ze_102_130, ze_102_133, ze_102_134, ze_102_136, ze_102_139, ze_102_144, ze_102_147, ze_102_150, ze_102_150_n, ze_102_151, ze_102_152, ze_102_154, ze_102_155, ze_102_156, ze_102_156_n, ze_102_157, ze_102_158, ze_102_159, ze_102_160, ze_102_160_n, ze_102_161, ze_102_164, ze_102_165, ze_102_166, ze_102_169, ze_102_172, ze_102_173, z_k_r, z_push_s, z_push_n, okS_0, okS_I, okS_R, okS_A, List.getElem?_cons_zero, List.getElem?_cons_succ, List.length_cons, List.length_nil, List.set_cons_zero, List.set_cons_succ, true_and, and_true, z_tI, z_tB, pk_mul, nI_add, cI_cl, cI_ix, nar_0, nar_1, nar_b, Nat.reduceAdd, Nat.reduceLT, Nat.reduceMul, ↓lG_R, ↓lG_C, ↓lG_N, ↓lG_G, ↓lG_n, ↓lG_4, ↓lG_5, ↓lG_6, lG_o, ↓lG_q1, lG_q1, ↓lG_q2, lG_q2, ↓lG_q3, lG_q3, ↓lG_q4, lG_q4, ↓lG_a1, lG_a1, ↓lG_a2, lG_a2, ↓lG_a4, lG_a4, lH_R, lH_C, lH_N, lH_G, lH_n, lH_4, lH_5, lH_6, lH_q1, lH_q2, lH_q3, lH_q4, lH_a1, lH_a2, lH_a4, cI_lt, cI_eq, ↓reduceIte, if_true, if_false, Nat.lt_irrefl, eq_self, Nat.reduceEqDiff, or_true, true_or, or_false, false_or, not_false_eq_true, not_true_eq_false, ce_5, zb_t, zb_f]
  | k + 1, i, b0, h => by
    have hC := hg.C5
    have hR := hg.RC
    have hi : i < r := by omega
    have hWi := hW i hi
    have go := fun b0 => l_acf (P := P) (d := d) (q := q) (X := X) (v3 := v3) hg hw h1 hr hc hW hG k (i + 1) b0 (by omega)
    have w1 : ∀ (K : Int32 → Prop), z_aL (lgw f Q S X) w z_tI (nI i) K = K (nI (W i)) := fun K => by
      rw [th_aL (by omega), iA_L h1 (by omega) (by omega), hG i hi]
    have e2 : (nI (W i) = nI c) = (W i = c) := cI_eq (by omega) (by omega)
    have e5 := ce_inj (hg.c5 (i * 5 + W i)) (hg.c5 (r * 5 + c))
    rw [ze_102_94, aF_s]
    simp (disch := omega) only [ze_102_0, ze_102_1, ze_102_1_n, ze_102_2, ze_102_5, ze_102_8, ze_102_8_n, ze_102_9, ze_102_12, ze_102_12_n, ze_102_12_s, ze_102_15, ze_102_15_n, ze_102_16, ze_102_16_n, ze_102_17, ze_102_20, ze_102_23, ze_102_23_n, ze_102_26, ze_102_27, ze_102_28, ze_102_29, ze_102_29_n, ze_102_30, ze_102_33, ze_102_36, ze_102_36_n, ze_102_37, ze_102_40, ze_102_41, ze_102_42, ze_102_42_n, ze_102_43, ze_102_44, ze_102_45, ze_102_46, ze_102_47, ze_102_48, ze_102_49, ze_102_50, ze_102_53, ze_102_56, ze_102_57, ze_102_58, ze_102_59, ze_102_60, ze_102_61, ze_102_63, ze_102_65, ze_102_65_n, ze_102_66, ze_102_69, ze_102_72, ze_102_72_n, ze_102_73, ze_102_76, ze_102_77, ze_102_78, ze_102_80, ze_102_81, ze_102_84, ze_102_85, ze_102_88, ze_102_89, ze_102_91, ze_102_92, ze_102_96, ze_102_97, ze_102_100, ze_102_100_n, ze_102_101, ze_102_103, ze_102_104, ze_102_106, ze_102_109, ze_102_109_n, ze_102_110, ze_102_113, ze_102_115, ze_102_116, ze_102_116_n, ze_102_117, ze_102_119, ze_102_120, ze_102_121, ze_102_121_n, ze_102_122, ze_102_125, ze_102_126, ze_102_127, ze_102_129, ze_102_130, ze_102_133, ze_102_134, ze_102_136, ze_102_139, ze_102_144, ze_102_147, ze_102_150, ze_102_150_n, ze_102_151, ze_102_152, ze_102_154, ze_102_155, ze_102_156, ze_102_156_n, ze_102_157, ze_102_158, ze_102_159, ze_102_160, ze_102_160_n, ze_102_161, ze_102_164, ze_102_165, ze_102_166, ze_102_169, ze_102_172, ze_102_173, z_k_r, z_push_s, z_push_n, okS_0, okS_I, okS_R, okS_A, List.getElem?_cons_zero, List.getElem?_cons_succ, List.length_cons, List.length_nil, List.set_cons_zero, List.set_cons_succ, true_and, and_true, z_tI, z_tB, pk_mul, nI_add, cI_cl, cI_ix, nar_0, nar_1, nar_b, Nat.reduceAdd, Nat.reduceLT, Nat.reduceMul, ↓lG_R, ↓lG_C, ↓lG_N, ↓lG_G, ↓lG_n, ↓lG_4, ↓lG_5, ↓lG_6, lG_o, ↓lG_q1, lG_q1, ↓lG_q2, lG_q2, ↓lG_q3, lG_q3, ↓lG_q4, lG_q4, ↓lG_a1, lG_a1, ↓lG_a2, lG_a2, ↓lG_a4, lG_a4, lH_R, lH_C, lH_N, lH_G, lH_n, lH_4, lH_5, lH_6, lH_q1, lH_q2, lH_q3, lH_q4, lH_a1, lH_a2, lH_a4, cI_lt, cI_eq, ↓reduceIte, if_true, if_false, Nat.lt_irrefl, eq_self, Nat.reduceEqDiff, or_true, true_or, or_false, false_or, not_false_eq_true, not_true_eq_false, ce_5, zb_t, zb_f, hi, w1, e2, e5]
    by_cases z1 : W i = c
    · rw [if_pos z1, decide_eq_true (.inl z1), Bool.true_or, Bool.not_true, Bool.and_false]
      have := go false
      rw [Bool.false_and, zb_f] at this
      exact this
    · rw [if_neg z1]
      by_cases z2 : S.c (i * 5 + W i) = S.c (r * 5 + c)
      · rw [if_pos z2, decide_eq_true (.inr z2), Bool.true_or, Bool.not_true, Bool.and_false]
        have := go false
        rw [Bool.false_and, zb_f] at this
        exact this
      · rw [if_neg z2, decide_eq_false (fun z => z.elim z1 z2), Bool.false_or]
        exact go b0
theorem fr_free {r c : Nat} {W : Nat → Nat} {bz us : Nat → Bool} (hg : GI S) (hr : r < S.R) (hc : c < S.C) (hU : WU S r W bz us) : (!decide (S.c (r * 5 + c) = 5) && !aF (fun i => decide (W i = c ∨ S.c (i * 5 + W i) = S.c (r * 5 + c))) 0 r) = S.fr r c bz us := by
  have hC := hg.C5
  have hR := hg.RC
  unfold GS.fr
  by_cases e : S.c (r * 5 + c) = 5
  · simp [e]
  · have h5 := hg.c5 (r * 5 + c)
    rw [decide_eq_false e, Bool.not_false, Bool.true_and, Bool.true_and]
    have : aF (fun i => decide (W i = c ∨ S.c (i * 5 + W i) = S.c (r * 5 + c))) 0 r = (bz c || us (S.c (r * 5 + c))) := by
      refine b_ext2 ?_
      rw [aF_iff, Bool.or_eq_true, hU.2.1 c (by omega), hU.2.2 _ (by omega)]
      constructor
      · rintro ⟨i, _, i2, i3⟩
        rcases of_decide_eq_true i3 with z | z
        · exact .inl ⟨i, by omega, z⟩
        · exact .inr ⟨i, by omega, z⟩
      · rintro (⟨i, i2, z⟩ | ⟨i, i2, z⟩)
        · exact ⟨i, Nat.zero_le _, by omega, decide_eq_true (.inl z)⟩
        · exact ⟨i, Nat.zero_le _, by omega, decide_eq_true (.inr z)⟩
    rw [this]
    cases bz c <;> cases us (S.c (r * 5 + c)) <;> rfl
theorem WU_step {r c : Nat} {W : Nat → Nat} {bz us : Nat → Bool} (hg : GI S) (hc : c < S.C) (hU : WU S r W bz us) (hf : S.fr r c bz us = true) : WU S (r + 1) (nu W r c) (ad bz c) (ad us (S.c (r * 5 + c))) := by
  have h5 := hg.c5 (r * 5 + c)
  unfold GS.fr at hf
  simp only [Bool.and_eq_true, Bool.not_eq_true', decide_eq_false_iff_not] at hf
  have ex : ∀ (p : Nat → Nat → Prop) , (∃ i, i < r + 1 ∧ p i (nu W r c i)) ↔ (∃ i, i < r ∧ p i (W i)) ∨ p r c := by
    intro p
    constructor
    · rintro ⟨i, i1, i2⟩
      by_cases e : i = r
      · subst e
        rw [nu_s] at i2
        exact .inr i2
      · rw [nu_n e] at i2
        exact .inl ⟨i, by omega, i2⟩
    · rintro (⟨i, i1, i2⟩ | h)
      · exact ⟨i, by omega, by rw [nu_n (by omega)]; exact i2⟩
      · exact ⟨r, by omega, by rw [nu_s]; exact h⟩
  refine ⟨fun i hi => ?_, fun c' hc' => ?_, fun s hs => ?_⟩
  · by_cases e : i = r
    · subst e
      rw [nu_s]
      exact ⟨hc, by omega⟩
    · rw [nu_n e]
      exact hU.1 i (by omega)
  · unfold ad
    rw [Bool.or_eq_true, hU.2.1 c' hc', decide_eq_true_eq, ex (fun i x => x = c')]
    exact ⟨fun h => h.imp id Eq.symm, fun h => h.imp id Eq.symm⟩
  · unfold ad
    rw [Bool.or_eq_true, hU.2.2 s hs, decide_eq_true_eq, ex (fun i x => S.c (i * 5 + x) = s)]
    exact ⟨fun h => h.imp id Eq.symm, fun h => h.imp id Eq.symm⟩
end
