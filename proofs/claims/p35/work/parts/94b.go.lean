/-! the law's Grid: completions, one after another -/
def SB (f : Nat → Option z_C) (a R C : Nat) (p : Nat → Nat → Nat → Bool) : Prop := f a = some (lo .int R (fun i => a + 1 + i)) ∧ ∀ r, r < R → f (a + 1 + r) = some (inA C (arr C fun j => sS (p r j)))
def FB (f : Nat → Option z_C) (b R C : Nat) (F : Nat → Nat) : Prop := f b = some (lo .int R (fun i => b + 1 + i)) ∧ ∀ r, r < R → f (b + 1 + r) = some (inA C (arr C fun j => ce (F (r * 5 + j))))
/-- an outer array of which i rows are there -/
def oc (N i n : Nat) : z_C := .inl (.array .int, n, .inr (.inr (.inr (.inr fun t => if t < i then some (N + 1 + t) else none))))
section
variable {F : Nat → Option z_C} {a n k N x y : Nat} {c : Nat → Int32}
theorem nN_ {K : Nat → z_H → Prop} (hn : n ≤ 1000) : z_nN (F, some N, x, y) (nI n) K = K N (z_up F N (oc N 0 n), some (N + 1), x + 1, y + n) := by
  have h : z_an (F, some N, x, y) (nI n) = some (N, (z_up F N (oc N 0 n), some (N + 1), x + 1, y + n)) := by
    unfold z_an
    dsimp only
    rw [if_pos (cI_rng hn), cI_cl (by omega)]
    rfl
  unfold z_nN
  rw [h]
theorem nC_ {K : Nat → z_H → Prop} (h : F a = some (inA n c)) : z_nC (F, some N, x, y) 0 a K = K N (z_up F N (inA n c), some (N + 1), x + 1, y + n) := by
  have h : z_cln (F, some N, x, y) 0 a = some (N, (z_up F N (inA n c), some (N + 1), x + 1, y + n)) := by
    unfold z_cln
    dsimp only
    rw [h]
    rfl
  unfold z_nC
  rw [h]
theorem cst_ {q : Option Nat × Nat × Nat} (h : F a = some (inA n c)) : z_cst (F, q) 0 a = true := by
  unfold z_cst
  dsimp only
  rw [h]
  rfl
theorem aA_ {i m r : Nat} {K : (Nat → Option z_C) → Prop} (h : F a = some (oc a i n)) (hi : i < n) (hn : n ≤ 1000) (hr : F r = some (inA m c)) (hx : r = a + 1 + i) : z_aA F a (nI i) r K = K (z_up F a (oc a (i + 1) n)) := by
  have e : (∃ n' F', F r = some (.inl (.int, n', F'))) = True := eq_true ⟨m, _, hr⟩
  subst hx
  simp (disch := omega) only [z_aA, h, oc, cI_ix, cI_cl, true_and, e]
  have e2 : va_up (fun t => if t < i then some (a + 1 + t) else none) i (some (a + 1 + i)) = fun t => if t < i + 1 then some (a + 1 + t) else none := by
    funext t
    unfold va_up
    by_cases z : t = i
    · rw [if_pos z, if_pos (by omega), z]
    · rw [if_neg z]
      show (if t < i then some (a + 1 + t) else none) = _
      by_cases w : t < i
      · rw [if_pos w, if_pos (by omega)]
      · rw [if_neg w, if_neg (by omega)]
  rw [e2]
end
section
variable {g : z_G} {d : Nat} {P : z_Res → Prop} {Q a L : Nat} {S : GS} {X : LX}
theorem l_copy1 {f : Nat → Option z_C} {N x y : Nat} (hg : GI S) (hN : Q + NL S ≤ N) (hP : ∀ f', (∀ z, z < N → f' z = f z) → FB f' N S.R S.C S.c → P (.inr (some (.ref N)), (lgw f' Q S X, some (N + 1 + S.R), x + 1 + S.R, y + S.R + S.R * S.C))) : ∀ (k i : Nat) (f' : Nat → Option z_C) (N2 x2 y2 : Nat), i + k = S.R → (∀ z, z < N → f' z = f z) → f' N = some (oc N i S.R) → (∀ t, t < i → f' (N + 1 + t) = some (inA S.C (arr S.C fun j => ce (S.c (t * 5 + j))))) → N2 = N + 1 + i → x2 = x + 1 + i → y2 = y + S.R + i * S.C → z_T g d 100 10 [.ref Q, .ref N, .int (nI i)] [] (lgw f' Q S X, some N2, x2, y2) P
  | 0, i, f', N2, x2, y2, h, h1, h2, h3, e1, e2, e3 => by
    have hC := hg.C5
    have hR := hg.RC
    have : i = S.R := by omega
    subst this
    subst e1 e2 e3
    rw [ze_100_10]
    simp (disch := omega) only [ze_100_0, ze_100_0_n, ze_100_1, ze_100_4, ze_100_7, ze_100_7_n, ze_100_8, ze_100_9, ze_100_11, ze_100_11_n, ze_100_12, ze_100_15, ze_100_18, ze_100_18_n, ze_100_19, ze_100_20, ze_100_20_n, ze_100_21, ze_100_24, ze_100_25, ze_100_26, ze_100_29, ze_100_32, ze_100_33, ze_100_36, ze_100_39, ze_100_39_n, ze_100_40, ze_100_40_n, z_k_r, z_push_s, z_push_n, okS_0, okS_I, okS_R, okS_A, List.getElem?_cons_zero, List.getElem?_cons_succ, List.length_cons, List.length_nil, List.set_cons_zero, List.set_cons_succ, true_and, and_true, z_tI, z_tB, pk_mul, nI_add, cI_cl, cI_ix, nar_0, nar_1, nar_b, Nat.reduceAdd, Nat.reduceLT, Nat.reduceMul, ↓lG_R, ↓lG_C, ↓lG_N, ↓lG_G, ↓lG_n, ↓lG_4, ↓lG_5, ↓lG_6, lG_o, ↓lG_q1, lG_q1, ↓lG_q2, lG_q2, ↓lG_q3, lG_q3, ↓lG_q4, lG_q4, ↓lG_a1, lG_a1, ↓lG_a2, lG_a2, ↓lG_a4, lG_a4, lH_R, lH_C, lH_N, lH_G, lH_n, lH_4, lH_5, lH_6, lH_q1, lH_q2, lH_q3, lH_q4, lH_a1, lH_a2, lH_a4, cI_lt, cI_eq, ↓reduceIte, if_true, if_false, Nat.lt_irrefl, eq_self, Nat.reduceEqDiff, or_true, true_or, or_false, false_or, not_false_eq_true, not_true_eq_false, ce_5, zb_t, zb_f]
    exact hP f' h1 ⟨h2, h3⟩
  | k + 1, i, f', N2, x2, y2, h, h1, h2, h3, e1, e2, e3 => by
    have hC := hg.C5
    have hR := hg.RC
    have hi : i < S.R := by omega
    have c1 : ∀ f, lgw f Q S X (Q + 2 + i) = some (inA S.C (arr S.C fun j => ce (S.c (i * 5 + j)))) := fun f => lg_c hi
    have go := l_copy1 hg hN hP k (i + 1) (z_up (z_up f' N2 (inA S.C (arr S.C fun j => ce (S.c (i * 5 + j))))) N (oc N (i + 1) S.R)) (N2 + 1) (x2 + 1) (y2 + S.C) (by omega) (fun z hz => by rw [z_up_ne (by omega), z_up_ne (by omega)]; exact h1 z hz) (z_up_self _ _ _) (fun t ht => by
      rw [z_up_ne (by omega)]
      by_cases e : t = i
      · rw [e, ← e1]; exact z_up_self _ _ _
      · rw [z_up_ne (by omega)]
        exact h3 t (by omega)) (by omega) (by omega) (by rw [e3, Nat.add_mul]; omega)
    have a1 := fun K => aA_ (F := lgw (z_up f' N2 (inA S.C (arr S.C fun j => ce (S.c (i * 5 + j))))) Q S X) (a := N) (n := S.R) (i := i) (r := N2) (K := K) (m := S.C) (c := arr S.C fun j => ce (S.c (i * 5 + j))) (by rw [lg_o (by omega), z_up_ne (by omega)]; exact h2) hi (by omega) (by rw [lg_o (by omega)]; exact z_up_self _ _ _) e1
    have cs := fun q => cst_ (q := q) (F := lgw (z_up f' N2 (inA S.C (arr S.C fun j => ce (S.c (i * 5 + j))))) Q S X) (a := N2) (n := S.C) (c := arr S.C fun j => ce (S.c (i * 5 + j))) (by rw [lg_o (by omega)]; exact z_up_self _ _ _)
    have up := fun f c => lgw_up (f := f) (Q := Q) (N := N2) (S := S) (X := X) (c := c) (.inr (by omega))
    have up2 := fun f c => lgw_up (f := f) (Q := Q) (N := N) (S := S) (X := X) (c := c) (.inr (by omega))
    rw [ze_100_10]
    simp (disch := omega) only [ze_100_0, ze_100_0_n, ze_100_1, ze_100_4, ze_100_7, ze_100_7_n, ze_100_8, ze_100_9, ze_100_11, ze_100_11_n, ze_100_12, ze_100_15, ze_100_18, ze_100_18_n, ze_100_19, ze_100_20, ze_100_20_n, ze_100_21, ze_100_24, ze_100_25, ze_100_26, ze_100_29, ze_100_32, ze_100_33, ze_100_36, ze_100_39, ze_100_39_n, ze_100_40, ze_100_40_n, z_k_r, z_push_s, z_push_n, okS_0, okS_I, okS_R, okS_A, List.getElem?_cons_zero, List.getElem?_cons_succ, List.length_cons, List.length_nil, List.set_cons_zero, List.set_cons_succ, true_and, and_true, z_tI, z_tB, pk_mul, nI_add, cI_cl, cI_ix, nar_0, nar_1, nar_b, Nat.reduceAdd, Nat.reduceLT, Nat.reduceMul, ↓lG_R, ↓lG_C, ↓lG_N, ↓lG_G, ↓lG_n, ↓lG_4, ↓lG_5, ↓lG_6, lG_o, ↓lG_q1, lG_q1, ↓lG_q2, lG_q2, ↓lG_q3, lG_q3, ↓lG_q4, lG_q4, ↓lG_a1, lG_a1, ↓lG_a2, lG_a2, ↓lG_a4, lG_a4, lH_R, lH_C, lH_N, lH_G, lH_n, lH_4, lH_5, lH_6, lH_q1, lH_q2, lH_q3, lH_q4, lH_a1, lH_a2, lH_a4, cI_lt, cI_eq, ↓reduceIte, if_true, if_false, Nat.lt_irrefl, eq_self, Nat.reduceEqDiff, or_true, true_or, or_false, false_or, not_false_eq_true, not_true_eq_false, ce_5, zb_t, zb_f, hi, nC_ (c1 _), up, cs, a1, up2]
    exact go
theorem l_copy {f : Nat → Option z_C} {N x y : Nat} (hg : GI S) (hN : Q + NL S ≤ N) (hP : ∀ f', (∀ z, z < N → f' z = f z) → FB f' N S.R S.C S.c → P (.inr (some (.ref N)), (lgw f' Q S X, some (N + 1 + S.R), x + 1 + S.R, y + S.R + S.R * S.C))) : z_Ca g d 100 [.ref Q] (lgw f Q S X, some N, x, y) P := by
  have hC := hg.C5
  have hR := hg.RC
  have w := l_copy1 (g := g) (d := d) hg hN hP S.R 0 (z_up f N (oc N 0 S.R)) (N + 1) (x + 1) (y + S.R) (Nat.zero_add _) (fun z hz => z_up_ne (by omega)) (z_up_self _ _ _) (fun t ht => absurd ht (Nat.not_lt_zero t)) rfl rfl (by omega)
  have up := fun f c => lgw_up (f := f) (Q := Q) (N := N) (S := S) (X := X) (c := c) (.inr hN)
  rw [zn_100]
  simp (disch := omega) only [ze_100_0, ze_100_0_n, ze_100_1, ze_100_4, ze_100_7, ze_100_7_n, ze_100_8, ze_100_9, ze_100_11, ze_100_11_n, ze_100_12, ze_100_15, ze_100_18, ze_100_18_n, ze_100_19, ze_100_20, ze_100_20_n, ze_100_21, ze_100_24, ze_100_25, ze_100_26, ze_100_29, ze_100_32, ze_100_33, ze_100_36, ze_100_39, ze_100_39_n, ze_100_40, ze_100_40_n, z_k_r, z_push_s, z_push_n, okS_0, okS_I, okS_R, okS_A, List.getElem?_cons_zero, List.getElem?_cons_succ, List.length_cons, List.length_nil, List.set_cons_zero, List.set_cons_succ, true_and, and_true, z_tI, z_tB, pk_mul, nI_add, cI_cl, cI_ix, nar_0, nar_1, nar_b, Nat.reduceAdd, Nat.reduceLT, Nat.reduceMul, ↓lG_R, ↓lG_C, ↓lG_N, ↓lG_G, ↓lG_n, ↓lG_4, ↓lG_5, ↓lG_6, lG_o, ↓lG_q1, lG_q1, ↓lG_q2, lG_q2, ↓lG_q3, lG_q3, ↓lG_q4, lG_q4, ↓lG_a1, lG_a1, ↓lG_a2, lG_a2, ↓lG_a4, lG_a4, lH_R, lH_C, lH_N, lH_G, lH_n, lH_4, lH_5, lH_6, lH_q1, lH_q2, lH_q3, lH_q4, lH_a1, lH_a2, lH_a4, nN_, up]
  exact w
/-- what a full Grid leaves in what was seen -/
theorem l_see1 {n : Int32} {fi fw th u w v5 : Value} {q : Option Nat × Nat × Nat} (hg : GI S) (hN : Q + NL S ≤ a) {r : Nat} (hr : r < S.R) (hf : ∀ j, j < S.C → S.c (r * 5 + j) < 5) : ∀ (k j : Nat) (f : Nat → Option z_C) (p : Nat → Nat → Nat → Bool), j + k = S.C → SB f a S.R S.C p → (∀ f' p', SB f' a S.R S.C p' → (∀ r' t s, s < 5 → t < S.C → p' r' t s = (p r' t s || (decide (r' = r) && decide (j ≤ t) && decide (s = S.c (r' * 5 + t))))) → (∀ z, (z < a ∨ a + 1 + S.R ≤ z) → f' z = f z) → z_T g d 99 98 [.ref Q, u, w, .int (nI r), .int (nI S.C), v5] [] (lgw f' Q S (n, fi, .ref a, fw, th), q) P) → z_T g d 99 60 [.ref Q, u, w, .int (nI r), .int (nI j), v5] [] (lgw f Q S (n, fi, .ref a, fw, th), q) P
  | 0, j, f, p, h, hS, hP => by
    have hC := hg.C5
    have : j = S.C := by omega
    subst this
    have := hP f p hS (fun r' t s hs ht => by rw [decide_eq_false (by omega : ¬ S.C ≤ t)]; simp) (fun z _ => rfl)
    rw [ze_99_60]
    simp (disch := omega) only [ze_99_0, ze_99_0_n, ze_99_1, ze_99_4, ze_99_5, ze_99_8, ze_99_9, ze_99_10, ze_99_10_n, ze_99_11, ze_99_14, ze_99_14_n, ze_99_15, ze_99_18, ze_99_19, ze_99_22, ze_99_22_n, ze_99_23, ze_99_26, ze_99_29, ze_99_29_n, ze_99_30, ze_99_30_n, ze_99_31, ze_99_34, ze_99_34_n, ze_99_37, ze_99_37_n, ze_99_38, ze_99_38_i, ze_99_39, ze_99_42, ze_99_43, ze_99_44, ze_99_47, ze_99_48, ze_99_49, ze_99_50, ze_99_50_n, ze_99_51, ze_99_54, ze_99_57, ze_99_58, ze_99_62, ze_99_62_n, ze_99_63, ze_99_66, ze_99_69, ze_99_69_n, ze_99_70, ze_99_73, ze_99_74, ze_99_75, ze_99_77, ze_99_78, ze_99_79, ze_99_80, ze_99_80_n, ze_99_81, ze_99_84, ze_99_85, ze_99_86, ze_99_88, ze_99_89, ze_99_90, ze_99_91, ze_99_92, ze_99_95, ze_99_101, ze_99_104, ze_99_105, ze_99_106, ze_99_106_n, ze_99_107, ze_99_110, ze_99_111, ze_99_112, ze_99_113, ze_99_113_n, ze_99_114, ze_99_117, ze_99_118, ze_99_120, ze_99_120_n, ze_99_121, ze_99_124, ze_99_125, ze_99_126, ze_99_128, ze_99_129, ze_99_132, ze_99_132_n, ze_99_133, ze_99_134, ze_99_135, ze_99_136, ze_99_137, ze_99_140, ze_99_141, ze_99_142, ze_99_144, ze_99_146, ze_99_146_n, ze_99_147, ze_99_150, ze_99_153, ze_99_153_n, ze_99_154, ze_99_155, ze_99_157, ze_99_159, ze_99_162, ze_99_165, ze_99_168, ze_99_168_n, ze_99_169, ze_99_172, ze_99_173, ze_99_174, ze_99_176, ze_99_178, ze_99_179, ze_99_179_n, ze_99_180, ze_99_181, ze_99_182, ze_99_183, ze_99_184, ze_99_187, ze_99_187_n, ze_99_188, ze_99_191, ze_99_192, ze_99_193, ze_99_195, ze_99_196, ze_99_197, ze_99_200, ze_99_203, z_k_r, z_push_s, z_push_n, okS_0, okS_I, okS_R, okS_A, List.getElem?_cons_zero, List.getElem?_cons_succ, List.length_cons, List.length_nil, List.set_cons_zero, List.set_cons_succ, true_and, and_true, z_tI, z_tB, pk_mul, nI_add, cI_cl, cI_ix, nar_0, nar_1, nar_b, Nat.reduceAdd, Nat.reduceLT, Nat.reduceMul, ↓lG_R, ↓lG_C, ↓lG_N, ↓lG_G, ↓lG_n, ↓lG_4, ↓lG_5, ↓lG_6, lG_o, ↓lG_q1, lG_q1, ↓lG_q2, lG_q2, ↓lG_q3, lG_q3, ↓lG_q4, lG_q4, ↓lG_a1, lG_a1, ↓lG_a2, lG_a2, ↓lG_a4, lG_a4, lH_R, lH_C, lH_N, lH_G, lH_n, lH_4, lH_5, lH_6, lH_q1, lH_q2, lH_q3, lH_q4, lH_a1, lH_a2, lH_a4, cI_lt, cI_eq, ↓reduceIte, if_true, if_false, Nat.lt_irrefl, eq_self, Nat.reduceEqDiff, or_true, true_or, or_false, false_or, not_false_eq_true, not_true_eq_false, ce_5, zb_t, zb_f]
    exact this
  | k + 1, j, f, p, h, hS, hP => by
    have hC := hg.C5
    have hR := hg.RC
    have hj : j < S.C := by omega
    have c5 := hf j hj
    have g9 := fun K => lG_9 f Q S (n, fi, .ref a, fw, th) q rfl K
    have q1 : ∀ (K : Nat → Prop), z_qL (lgw f Q S (n, fi, .ref a, fw, th)) a (nI r) K = K (a + 1 + r) := fun K => by
      rw [th_qL (by omega)]
      simp (disch := omega) only [z_qL, hS.1, lo, z_tQ, true_and, cI_ix, cI_cl, hr, if_true]
    have a1 : ∀ (K : Int32 → Prop), z_aL (lgw f Q S (n, fi, .ref a, fw, th)) (a + 1 + r) z_tI (nI j) K = K (sS (p r j)) := fun K => by
      rw [th_aL (by omega), iA_L (hS.2 r hr) hj (by omega), arr_at _ hj]
    have s1 : ∀ (v : Int32) (K : (Nat → Option z_C) → Prop), z_aS (lgw f Q S (n, fi, .ref a, fw, th)) (a + 1 + r) z_tI (nI j) v K = K (lgw (z_up f (a + 1 + r) (inA S.C (upd (arr S.C fun j => sS (p r j)) j v))) Q S (n, fi, .ref a, fw, th)) := fun v K => by
      rw [th_aS (by omega), iA_S' (hS.2 r hr) hj (by omega)]
    obtain ⟨p1, hp1⟩ : ∃ p1 : Nat → Nat → Nat → Bool, p1 = fun r' t s => p r' t s || (decide (r' = r) && decide (t = j) && decide (s = S.c (r * 5 + j))) := ⟨_, rfl⟩
    have hS1 : SB (z_up f (a + 1 + r) (inA S.C (upd (arr S.C fun j => sS (p r j)) j (sS (p r j) ||| nI 1 <<< (nI (S.c (r * 5 + j)) &&& 31))))) a S.R S.C p1 := by
      refine ⟨by rw [z_up_ne (by omega)]; exact hS.1, fun r' hr' => ?_⟩
      by_cases e : r' = r
      · subst e
        rw [z_up_self, sS_one c5, sS_or, arr_upd _ _ hj]
        refine congrArg (fun z => some (inA S.C (arr S.C z))) (upd_fn ?_ (fun t ht => ?_))
        · rw [hp1]
          refine sS_congr fun s hs => ?_
          simp
        · rw [hp1]
          refine sS_congr fun s hs => ?_
          simp [ht]
      · rw [z_up_ne (by omega), hS.2 r' hr', hp1]
        refine congrArg (fun z => some (inA S.C (arr S.C z))) (funext fun t => sS_congr fun s hs => ?_)
        simp [e]
    have go := l_see1 (n := n) (fi := fi) (fw := fw) (th := th) (u := u) (w := w) (v5 := v5) (q := q) hg hN hr hf k (j + 1) _ p1 (by omega) hS1 (fun f' p' b1 b2 b3 => hP f' p' b1 (fun r' t s hs ht => by
      rw [b2 r' t s hs ht, hp1]
      by_cases e : r' = r
      · subst e
        by_cases e2 : t = j
        · subst e2
          rw [decide_eq_false (by omega : ¬ t + 1 ≤ t), decide_eq_true (Nat.le_refl t)]
          simp
        · by_cases e3 : j ≤ t
          · rw [decide_eq_true (by omega : j + 1 ≤ t), decide_eq_true e3]
            simp [e2]
          · rw [decide_eq_false (by omega : ¬ j + 1 ≤ t), decide_eq_false e3]
            simp [e2]
      · simp [e]) (fun z hz => by rw [b3 z hz, z_up_ne (by omega)]))
    have cel := ce_lt c5
    rw [ze_99_60]
    simp (disch := omega) only [ze_99_0, ze_99_0_n, ze_99_1, ze_99_4, ze_99_5, ze_99_8, ze_99_9, ze_99_10, ze_99_10_n, ze_99_11, ze_99_14, ze_99_14_n, ze_99_15, ze_99_18, ze_99_19, ze_99_22, ze_99_22_n, ze_99_23, ze_99_26, ze_99_29, ze_99_29_n, ze_99_30, ze_99_30_n, ze_99_31, ze_99_34, ze_99_34_n, ze_99_37, ze_99_37_n, ze_99_38, ze_99_38_i, ze_99_39, ze_99_42, ze_99_43, ze_99_44, ze_99_47, ze_99_48, ze_99_49, ze_99_50, ze_99_50_n, ze_99_51, ze_99_54, ze_99_57, ze_99_58, ze_99_62, ze_99_62_n, ze_99_63, ze_99_66, ze_99_69, ze_99_69_n, ze_99_70, ze_99_73, ze_99_74, ze_99_75, ze_99_77, ze_99_78, ze_99_79, ze_99_80, ze_99_80_n, ze_99_81, ze_99_84, ze_99_85, ze_99_86, ze_99_88, ze_99_89, ze_99_90, ze_99_91, ze_99_92, ze_99_95, ze_99_101, ze_99_104, ze_99_105, ze_99_106, ze_99_106_n, ze_99_107, ze_99_110, ze_99_111, ze_99_112, ze_99_113, ze_99_113_n, ze_99_114, ze_99_117, ze_99_118, ze_99_120, ze_99_120_n, ze_99_121, ze_99_124, ze_99_125, ze_99_126, ze_99_128, ze_99_129, ze_99_132, ze_99_132_n, ze_99_133, ze_99_134, ze_99_135, ze_99_136, ze_99_137, ze_99_140, ze_99_141, ze_99_142, ze_99_144, ze_99_146, ze_99_146_n, ze_99_147, ze_99_150, ze_99_153, ze_99_153_n, ze_99_154, ze_99_155, ze_99_157, ze_99_159, ze_99_162, ze_99_165, ze_99_168, ze_99_168_n, ze_99_169, ze_99_172, ze_99_173, ze_99_174, ze_99_176, ze_99_178, ze_99_179, ze_99_179_n, ze_99_180, ze_99_181, ze_99_182, ze_99_183, ze_99_184, ze_99_187, ze_99_187_n, ze_99_188, ze_99_191, ze_99_192, ze_99_193, ze_99_195, ze_99_196, ze_99_197, ze_99_200, ze_99_203, z_k_r, z_push_s, z_push_n, okS_0, okS_I, okS_R, okS_A, List.getElem?_cons_zero, List.getElem?_cons_succ, List.length_cons, List.length_nil, List.set_cons_zero, List.set_cons_succ, true_and, and_true, z_tI, z_tB, pk_mul, nI_add, cI_cl, cI_ix, nar_0, nar_1, nar_b, Nat.reduceAdd, Nat.reduceLT, Nat.reduceMul, ↓lG_R, ↓lG_C, ↓lG_N, ↓lG_G, ↓lG_n, ↓lG_4, ↓lG_5, ↓lG_6, lG_o, ↓lG_q1, lG_q1, ↓lG_q2, lG_q2, ↓lG_q3, lG_q3, ↓lG_q4, lG_q4, ↓lG_a1, lG_a1, ↓lG_a2, lG_a2, ↓lG_a4, lG_a4, lH_R, lH_C, lH_N, lH_G, lH_n, lH_4, lH_5, lH_6, lH_q1, lH_q2, lH_q3, lH_q4, lH_a1, lH_a2, lH_a4, cI_lt, cI_eq, ↓reduceIte, if_true, if_false, Nat.lt_irrefl, eq_self, Nat.reduceEqDiff, or_true, true_or, or_false, false_or, not_false_eq_true, not_true_eq_false, ce_5, zb_t, zb_f, hj, ↓g9, q1, a1, s1, cel]
    exact go
theorem l_see2 {n : Int32} {fi fw th u w v5 : Value} {q : Option Nat × Nat × Nat} (hg : GI S) (hN : Q + NL S ≤ a) (hf : ∀ r j, r < S.R → j < S.C → S.c (r * 5 + j) < 5) : ∀ (k r : Nat) (v4 : Value) (f : Nat → Option z_C) (p : Nat → Nat → Nat → Bool), r + k = S.R → SB f a S.R S.C p → (∀ f' p', SB f' a S.R S.C p' → (∀ r' t s, s < 5 → t < S.C → r' < S.R → p' r' t s = (p r' t s || (decide (r ≤ r') && decide (s = S.c (r' * 5 + t))))) → (∀ z, (z < a ∨ a + 1 + S.R ≤ z) → f' z = f z) → P (.inr none, (lgw f' Q S (n, fi, .ref a, fw, th), q))) → z_T g d 99 49 [.ref Q, u, w, .int (nI r), v4, v5] [] (lgw f Q S (n, fi, .ref a, fw, th), q) P
  | 0, r, v4, f, p, h, hS, hP => by
    have hC := hg.C5
    have hR := hg.RC
    have : r = S.R := by omega
    subst this
    have := hP f p hS (fun r' t s hs ht hr' => by rw [decide_eq_false (by omega : ¬ S.R ≤ r')]; simp) (fun z _ => rfl)
    rw [ze_99_49]
    simp (disch := omega) only [ze_99_0, ze_99_0_n, ze_99_1, ze_99_4, ze_99_5, ze_99_8, ze_99_9, ze_99_10, ze_99_10_n, ze_99_11, ze_99_14, ze_99_14_n, ze_99_15, ze_99_18, ze_99_19, ze_99_22, ze_99_22_n, ze_99_23, ze_99_26, ze_99_29, ze_99_29_n, ze_99_30, ze_99_30_n, ze_99_31, ze_99_34, ze_99_34_n, ze_99_37, ze_99_37_n, ze_99_38, ze_99_38_i, ze_99_39, ze_99_42, ze_99_43, ze_99_44, ze_99_47, ze_99_48, ze_99_50, ze_99_50_n, ze_99_51, ze_99_54, ze_99_57, ze_99_58, ze_99_60, ze_99_62, ze_99_62_n, ze_99_63, ze_99_66, ze_99_69, ze_99_69_n, ze_99_70, ze_99_73, ze_99_74, ze_99_75, ze_99_77, ze_99_78, ze_99_79, ze_99_80, ze_99_80_n, ze_99_81, ze_99_84, ze_99_85, ze_99_86, ze_99_88, ze_99_89, ze_99_90, ze_99_91, ze_99_92, ze_99_95, ze_99_98, ze_99_101, ze_99_104, ze_99_105, ze_99_106, ze_99_106_n, ze_99_107, ze_99_110, ze_99_111, ze_99_112, ze_99_113, ze_99_113_n, ze_99_114, ze_99_117, ze_99_118, ze_99_120, ze_99_120_n, ze_99_121, ze_99_124, ze_99_125, ze_99_126, ze_99_128, ze_99_129, ze_99_132, ze_99_132_n, ze_99_133, ze_99_134, ze_99_135, ze_99_136, ze_99_137, ze_99_140, ze_99_141, ze_99_142, ze_99_144, ze_99_146, ze_99_146_n, ze_99_147, ze_99_150, ze_99_153, ze_99_153_n, ze_99_154, ze_99_155, ze_99_157, ze_99_159, ze_99_162, ze_99_165, ze_99_168, ze_99_168_n, ze_99_169, ze_99_172, ze_99_173, ze_99_174, ze_99_176, ze_99_178, ze_99_179, ze_99_179_n, ze_99_180, ze_99_181, ze_99_182, ze_99_183, ze_99_184, ze_99_187, ze_99_187_n, ze_99_188, ze_99_191, ze_99_192, ze_99_193, ze_99_195, ze_99_196, ze_99_197, ze_99_200, ze_99_203, z_k_r, z_push_s, z_push_n, okS_0, okS_I, okS_R, okS_A, List.getElem?_cons_zero, List.getElem?_cons_succ, List.length_cons, List.length_nil, List.set_cons_zero, List.set_cons_succ, true_and, and_true, z_tI, z_tB, pk_mul, nI_add, cI_cl, cI_ix, nar_0, nar_1, nar_b, Nat.reduceAdd, Nat.reduceLT, Nat.reduceMul, ↓lG_R, ↓lG_C, ↓lG_N, ↓lG_G, ↓lG_n, ↓lG_4, ↓lG_5, ↓lG_6, lG_o, ↓lG_q1, lG_q1, ↓lG_q2, lG_q2, ↓lG_q3, lG_q3, ↓lG_q4, lG_q4, ↓lG_a1, lG_a1, ↓lG_a2, lG_a2, ↓lG_a4, lG_a4, lH_R, lH_C, lH_N, lH_G, lH_n, lH_4, lH_5, lH_6, lH_q1, lH_q2, lH_q3, lH_q4, lH_a1, lH_a2, lH_a4, cI_lt, cI_eq, ↓reduceIte, if_true, if_false, Nat.lt_irrefl, eq_self, Nat.reduceEqDiff, or_true, true_or, or_false, false_or, not_false_eq_true, not_true_eq_false, ce_5, zb_t, zb_f]
    exact this
  | k + 1, r, v4, f, p, h, hS, hP => by
    have hC := hg.C5
    have hR := hg.RC
    have hr : r < S.R := by omega
    have w9 := l_see1 (g := g) (d := d) (P := P) (n := n) (fi := fi) (fw := fw) (th := th) (u := u) (w := w) (v5 := v5) (q := q) hg hN hr (hf r · hr) S.C 0 f p (Nat.zero_add _) hS (fun f1 p1 b1 b2 b3 => by
      have go := l_see2 (n := n) (fi := fi) (fw := fw) (th := th) (u := u) (w := w) (v5 := v5) (q := q) hg hN hf k (r + 1) (.int (nI S.C)) f1 p1 (by omega) b1 (fun f' p' c1 c2 c3 => hP f' p' c1 (fun r' t s hs ht hr' => by
        rw [c2 r' t s hs ht hr', b2 r' t s hs ht, decide_eq_true (Nat.zero_le t)]
        by_cases e : r' = r
        · subst e
          rw [decide_eq_false (by omega : ¬ r' + 1 ≤ r'), decide_eq_true (Nat.le_refl r')]
          simp
        · by_cases e3 : r ≤ r'
          · rw [decide_eq_true (by omega : r + 1 ≤ r'), decide_eq_true e3, decide_eq_false e]
            simp
          · rw [decide_eq_false (by omega : ¬ r + 1 ≤ r'), decide_eq_false e3, decide_eq_false e]
            simp) (fun z hz => by rw [c3 z hz, b3 z hz]))
      simp (disch := omega) only [ze_99_0, ze_99_0_n, ze_99_1, ze_99_4, ze_99_5, ze_99_8, ze_99_9, ze_99_10, ze_99_10_n, ze_99_11, ze_99_14, ze_99_14_n, ze_99_15, ze_99_18, ze_99_19, ze_99_22, ze_99_22_n, ze_99_23, ze_99_26, ze_99_29, ze_99_29_n, ze_99_30, ze_99_30_n, ze_99_31, ze_99_34, ze_99_34_n, ze_99_37, ze_99_37_n, ze_99_38, ze_99_38_i, ze_99_39, ze_99_42, ze_99_43, ze_99_44, ze_99_47, ze_99_48, ze_99_50, ze_99_50_n, ze_99_51, ze_99_54, ze_99_57, ze_99_58, ze_99_62, ze_99_62_n, ze_99_63, ze_99_66, ze_99_69, ze_99_69_n, ze_99_70, ze_99_73, ze_99_74, ze_99_75, ze_99_77, ze_99_78, ze_99_79, ze_99_80, ze_99_80_n, ze_99_81, ze_99_84, ze_99_85, ze_99_86, ze_99_88, ze_99_89, ze_99_90, ze_99_91, ze_99_92, ze_99_95, ze_99_98, ze_99_101, ze_99_104, ze_99_105, ze_99_106, ze_99_106_n, ze_99_107, ze_99_110, ze_99_111, ze_99_112, ze_99_113, ze_99_113_n, ze_99_114, ze_99_117, ze_99_118, ze_99_120, ze_99_120_n, ze_99_121, ze_99_124, ze_99_125, ze_99_126, ze_99_128, ze_99_129, ze_99_132, ze_99_132_n, ze_99_133, ze_99_134, ze_99_135, ze_99_136, ze_99_137, ze_99_140, ze_99_141, ze_99_142, ze_99_144, ze_99_146, ze_99_146_n, ze_99_147, ze_99_150, ze_99_153, ze_99_153_n, ze_99_154, ze_99_155, ze_99_157, ze_99_159, ze_99_162, ze_99_165, ze_99_168, ze_99_168_n, ze_99_169, ze_99_172, ze_99_173, ze_99_174, ze_99_176, ze_99_178, ze_99_179, ze_99_179_n, ze_99_180, ze_99_181, ze_99_182, ze_99_183, ze_99_184, ze_99_187, ze_99_187_n, ze_99_188, ze_99_191, ze_99_192, ze_99_193, ze_99_195, ze_99_196, ze_99_197, ze_99_200, ze_99_203, z_k_r, z_push_s, z_push_n, okS_0, okS_I, okS_R, okS_A, List.getElem?_cons_zero, List.getElem?_cons_succ, List.length_cons, List.length_nil, List.set_cons_zero, List.set_cons_succ, true_and, and_true, z_tI, z_tB, pk_mul, nI_add, cI_cl, cI_ix, nar_0, nar_1, nar_b, Nat.reduceAdd, Nat.reduceLT, Nat.reduceMul]
      exact go)
    rw [ze_99_49]
    simp (disch := omega) only [ze_99_0, ze_99_0_n, ze_99_1, ze_99_4, ze_99_5, ze_99_8, ze_99_9, ze_99_10, ze_99_10_n, ze_99_11, ze_99_14, ze_99_14_n, ze_99_15, ze_99_18, ze_99_19, ze_99_22, ze_99_22_n, ze_99_23, ze_99_26, ze_99_29, ze_99_29_n, ze_99_30, ze_99_30_n, ze_99_31, ze_99_34, ze_99_34_n, ze_99_37, ze_99_37_n, ze_99_38, ze_99_38_i, ze_99_39, ze_99_42, ze_99_43, ze_99_44, ze_99_47, ze_99_48, ze_99_50, ze_99_50_n, ze_99_51, ze_99_54, ze_99_57, ze_99_58, ze_99_62, ze_99_62_n, ze_99_63, ze_99_66, ze_99_69, ze_99_69_n, ze_99_70, ze_99_73, ze_99_74, ze_99_75, ze_99_77, ze_99_78, ze_99_79, ze_99_80, ze_99_80_n, ze_99_81, ze_99_84, ze_99_85, ze_99_86, ze_99_88, ze_99_89, ze_99_90, ze_99_91, ze_99_92, ze_99_95, ze_99_98, ze_99_101, ze_99_104, ze_99_105, ze_99_106, ze_99_106_n, ze_99_107, ze_99_110, ze_99_111, ze_99_112, ze_99_113, ze_99_113_n, ze_99_114, ze_99_117, ze_99_118, ze_99_120, ze_99_120_n, ze_99_121, ze_99_124, ze_99_125, ze_99_126, ze_99_128, ze_99_129, ze_99_132, ze_99_132_n, ze_99_133, ze_99_134, ze_99_135, ze_99_136, ze_99_137, ze_99_140, ze_99_141, ze_99_142, ze_99_144, ze_99_146, ze_99_146_n, ze_99_147, ze_99_150, ze_99_153, ze_99_153_n, ze_99_154, ze_99_155, ze_99_157, ze_99_159, ze_99_162, ze_99_165, ze_99_168, ze_99_168_n, ze_99_169, ze_99_172, ze_99_173, ze_99_174, ze_99_176, ze_99_178, ze_99_179, ze_99_179_n, ze_99_180, ze_99_181, ze_99_182, ze_99_183, ze_99_184, ze_99_187, ze_99_187_n, ze_99_188, ze_99_191, ze_99_192, ze_99_193, ze_99_195, ze_99_196, ze_99_197, ze_99_200, ze_99_203, z_k_r, z_push_s, z_push_n, okS_0, okS_I, okS_R, okS_A, List.getElem?_cons_zero, List.getElem?_cons_succ, List.length_cons, List.length_nil, List.set_cons_zero, List.set_cons_succ, true_and, and_true, z_tI, z_tB, pk_mul, nI_add, cI_cl, cI_ix, nar_0, nar_1, nar_b, Nat.reduceAdd, Nat.reduceLT, Nat.reduceMul, ↓lG_R, ↓lG_C, ↓lG_N, ↓lG_G, ↓lG_n, ↓lG_4, ↓lG_5, ↓lG_6, lG_o, ↓lG_q1, lG_q1, ↓lG_q2, lG_q2, ↓lG_q3, lG_q3, ↓lG_q4, lG_q4, ↓lG_a1, lG_a1, ↓lG_a2, lG_a2, ↓lG_a4, lG_a4, lH_R, lH_C, lH_N, lH_G, lH_n, lH_4, lH_5, lH_6, lH_q1, lH_q2, lH_q3, lH_q4, lH_a1, lH_a2, lH_a4, cI_lt, cI_eq, ↓reduceIte, if_true, if_false, Nat.lt_irrefl, eq_self, Nat.reduceEqDiff, or_true, true_or, or_false, false_or, not_false_eq_true, not_true_eq_false, ce_5, zb_t, zb_f, hr]
    exact w9
end
