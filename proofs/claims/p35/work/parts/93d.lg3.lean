/-! allocation; the law's Grid: what is forced -/
theorem cI_le {a b : Nat} (ha : a < 2147483648) (hb : b < 2147483648) : (nI a ≤ nI b) = (a ≤ b) := by
  have h := cI_lt hb ha
  refine propext ⟨fun z => ?_, fun z => ?_⟩
  · exact Nat.le_of_not_lt fun w => absurd (h ▸ w : nI b < nI a) (Int32.not_lt.mpr z)
  · exact Int32.not_lt.mp fun w => absurd (h ▸ w : b < a) (by omega)
theorem cI_rng {n : Nat} (hn : n ≤ 1000) : (0 : Int32) ≤ nI n ∧ nI n ≤ 1000 := by
  refine ⟨?_, ?_⟩
  · show nI 0 ≤ nI n
    rw [cI_le (by omega) (by omega)]
    omega
  · show nI n ≤ nI 1000
    rw [cI_le (by omega) (by omega)]
    exact hn
theorem ntz_a : ∀ k, k < 32 → ∀ t, t < 5 → k % 2 ^ (t + 1) = 2 ^ t → ((nI k ^^^ (-1)) &&& (nI k - nI 1)) = nI (2 ^ t - 1) := by decide +kernel
theorem low_m5 {p : Nat → Bool} (hp : low p ≠ 5) : m5 p % 2 ^ (low p + 1) = 2 ^ low p := by
  have e : m5 p = m5b (p 0) (p 1) (p 2) (p 3) (p 4) := rfl
  rw [e]
  unfold low at hp ⊢
  generalize p 0 = a at hp ⊢
  generalize p 1 = b at hp ⊢
  generalize p 2 = c at hp ⊢
  generalize p 3 = d at hp ⊢
  generalize p 4 = e at hp ⊢
  revert hp
  revert a b c d e
  decide +kernel
section
variable {g : z_G} {d : Nat} {f : Nat → Option z_C} {P : z_Res → Prop} {Q N x y : Nat} {S : GS} {X : LX} {K : Nat → z_H → Prop}
theorem nA_i {n : Nat} (hn : n ≤ 1000) : z_nA (f, some N, x, y) .int (nI n) K = K N (z_up f N (.inl (.int, n, .inl fun _ => 0)), some (N + 1), x + 1, y + n) := by
  have h : z_na (f, some N, x, y) .int (nI n) = some (N, (z_up f N (.inl (.int, n, .inl fun _ => 0)), some (N + 1), x + 1, y + n)) := by
    unfold z_na z_arr0
    dsimp only
    rw [if_pos (cI_rng hn), cI_cl (by omega)]
  unfold z_nA
  rw [h]
theorem nA_z {n : Nat} (hn : n ≤ 1000) : z_nA (f, some N, x, y) .boolean (nI n) K = K N (z_up f N (.inl (.boolean, n, .inl fun _ => 0)), some (N + 1), x + 1, y + n) := by
  have h : z_na (f, some N, x, y) .boolean (nI n) = some (N, (z_up f N (.inl (.boolean, n, .inl fun _ => 0)), some (N + 1), x + 1, y + n)) := by
    unfold z_na z_arr0
    dsimp only
    rw [if_pos (cI_rng hn), cI_cl (by omega)]
  unfold z_nA
  rw [h]
theorem nA_b {n : Nat} (hn : n ≤ 1000) : z_nA (f, some N, x, y) .byte (nI n) K = K N (z_up f N (.inl (.byte, n, .inl fun _ => 0)), some (N + 1), x + 1, y + n) := by
  have h : z_na (f, some N, x, y) .byte (nI n) = some (N, (z_up f N (.inl (.byte, n, .inl fun _ => 0)), some (N + 1), x + 1, y + n)) := by
    unfold z_na z_arr0
    dsimp only
    rw [if_pos (cI_rng hn), cI_cl (by omega)]
  unfold z_nA
  rw [h]
/-- a place of an array that was just made -/
theorem sA_i {F : Nat → Option z_C} {a n k : Nat} {c : Nat → Int32} {v : Int32} {K : (Nat → Option z_C) → Prop} (hk : k < n) (hn : n ≤ 1000) : z_aS (z_up F a (.inl (.int, n, .inl c))) a z_tI (nI k) v K = K (z_up F a (.inl (.int, n, .inl (upd c k v)))) := by
  simp (disch := omega) only [z_aS, z_up_self, z_tI, cI_ix, cI_cl, z_up_up, true_and]
theorem s_ntz {h : z_H} {p : Nat → Bool} (hp : low p ≠ 5) : z_Ca g d 120 [.int (sS p)] h P = P (.inr (some (.int (nI (low p)))), h) := by
  have h5 := (low_sp hp).1
  have e0 := ntz_a (m5 p) (m5_lt p) (low p) h5 (low_m5 hp)
  rw [show nI (m5 p) = sS p from rfl] at e0
  have u1 : ∀ k, k < 16 → ((nI k).toUInt32 >>> ((nI 1).toUInt32 &&& Int32.toUInt32 31)).toInt32 = nI (k / 2) := by decide +kernel
  have u2 : ∀ k, k < 16 → ((nI k).toUInt32 >>> ((nI 2).toUInt32 &&& Int32.toUInt32 31)).toInt32 = nI (k / 4) := by decide +kernel
  have l1 : ∀ k, k < 16 → ((65536 : Int32) < nI k) = False := by decide +kernel
  rw [zn_120]
  rcases five h5 with z | z | z | z | z
  all_goals
    rw [z] at e0 ⊢
    simp (disch := omega) only [ze_120_0, ze_120_1, ze_120_2, ze_120_3, ze_120_4, ze_120_5, ze_120_6, ze_120_7, ze_120_8, ze_120_9, ze_120_12, ze_120_13, ze_120_15, ze_120_16, ze_120_17, ze_120_18, ze_120_19, ze_120_20, ze_120_23, ze_120_26, ze_120_29, ze_120_30, ze_120_32, ze_120_33, ze_120_34, ze_120_35, ze_120_38, ze_120_41, ze_120_44, ze_120_45, ze_120_47, ze_120_48, ze_120_49, ze_120_50, ze_120_52, ze_120_55, ze_120_58, ze_120_59, ze_120_60, ze_120_61, ze_120_62, ze_120_63, ze_120_64, ze_120_67, ze_120_70, ze_120_71, ze_120_72, ze_120_73, ze_120_74, ze_120_75, ze_120_76, ze_120_77, ze_120_78, ze_120_79, z_k_r, z_push_s, z_push_n, okS_0, okS_I, okS_R, okS_A, List.getElem?_cons_zero, List.getElem?_cons_succ, List.length_cons, List.length_nil, List.set_cons_zero, List.set_cons_succ, true_and, and_true, z_tI, z_tB, pk_mul, nI_add, cI_cl, cI_ix, nar_0, nar_1, nar_b, Nat.reduceAdd, Nat.reduceLT, Nat.reduceMul, cI_lt, cI_eq, ↓reduceIte, if_true, if_false, Nat.lt_irrefl, eq_self, Nat.reduceEqDiff, or_true, true_or, or_false, false_or, not_false_eq_true, not_true_eq_false, ce_5, zb_t, zb_f, e0, u1, u2, l1, Nat.reducePow, Nat.reduceSub, Nat.reduceDiv]
    try rfl
end
/-- two ints in an array -/
def a2c (a b : Int32) : z_C := .inl (.int, 2, .inl (upd (upd (fun _ => 0) 0 a) 1 b))
theorem lgw_up {f : Nat → Option z_C} {Q N : Nat} {S : GS} {X : LX} {c : z_C} (h : N < Q ∨ Q + NL S ≤ N) : z_up (lgw f Q S X) N c = lgw (z_up f N c) Q S X := ow_upo c h
theorem eR_5 {S : GS} {r j : Nat} (h : ∀ s, s < 5 → S.cd r j s = false) : S.rs r j = 0 := by
  have p0 : pop (S.cd r j) = 0 := by
    unfold pop
    rw [h 0 (by omega), h 1 (by omega), h 2 (by omega), h 3 (by omega), h 4 (by omega)]
    rfl
  have e1 : low (S.eR r j) = 5 := low_5.mpr fun s hs => by
    unfold GS.eR
    rw [h s hs]
    rfl
  have e2 : low (S.eC r j) = 5 := low_5.mpr fun s hs => by
    unfold GS.eC
    rw [h s hs]
    rfl
  unfold GS.rs
  rw [if_neg (by omega), if_neg (by simp [e1]), if_neg (by simp [e2])]
section
variable {g : z_G} {d : Nat} {f : Nat → Option z_C} {P : z_Res → Prop} {Q N x y : Nat} {q : Option Nat × Nat × Nat} {S : GS} {X : LX}
/-- is it the only place in the row, in the column -/
theorem l_onlyR (hg : GI S) (hd : 0 < d) {r j s : Nat} (hr : r < S.R) (hj : j < S.C) (hs : s < S.C) {z : Value} : ∀ (k i : Nat) (b : Bool), i + k = S.C → z_T g d 97 68 [.ref Q, .int (nI r), .int (nI j), z, .int (nI s), .int (zb b), .int (nI i)] [] (lgw f Q S X, q) P = z_T g d 97 104 [.ref Q, .int (nI r), .int (nI j), z, .int (nI s), .int (zb (b && !aF (fun x => decide (x ≠ j) && S.cd r x s) i k)), .int (nI S.C)] [] (lgw f Q S X, q) P
  | 0, i, b, h => by
    have hC := hg.C5
    have : i = S.C := by omega
    subst this
    rw [ze_97_68, aF_z, Bool.not_false, Bool.and_true]
    simp (disch := omega) only [ze_97_0, ze_97_0_n, ze_97_1, ze_97_2, ze_97_3, ze_97_6, ze_97_7, ze_97_8, ze_97_11, ze_97_12, ze_97_12_n, ze_97_13, ze_97_14, ze_97_17, ze_97_18, ze_97_21, ze_97_22, ze_97_24, ze_97_24_i, ze_97_25, ze_97_26, ze_97_27, ze_97_30, ze_97_31, ze_97_31_i, ze_97_32, ze_97_33, ze_97_34, ze_97_35, ze_97_35_n, ze_97_36, ze_97_37, ze_97_39, ze_97_41, ze_97_41_n, ze_97_42, ze_97_45, ze_97_48, ze_97_48_n, ze_97_49, ze_97_50, ze_97_51, ze_97_53, ze_97_56, ze_97_59, ze_97_62, ze_97_63, ze_97_65, ze_97_66, ze_97_70, ze_97_70_n, ze_97_71, ze_97_74, ze_97_77, ze_97_79, ze_97_80, ze_97_83, ze_97_83_n, ze_97_84, ze_97_85, ze_97_87, ze_97_89, ze_97_92, ze_97_95, ze_97_96, ze_97_98, ze_97_101, ze_97_106, ze_97_109, ze_97_110, ze_97_112, ze_97_112_i, ze_97_113, ze_97_114, ze_97_116, ze_97_117, ze_97_117_i, ze_97_118, ze_97_119, ze_97_120, ze_97_121, ze_97_121_n, ze_97_122, ze_97_125, ze_97_128, ze_97_129, ze_97_131, ze_97_133, ze_97_133_n, ze_97_134, ze_97_137, ze_97_140, ze_97_140_n, ze_97_141, ze_97_144, ze_97_144_n, ze_97_145, ze_97_148, ze_97_151, ze_97_151_n, ze_97_152, ze_97_153, ze_97_154, ze_97_156, ze_97_159, ze_97_162, ze_97_165, ze_97_166, ze_97_168, ze_97_169, ze_97_171, ze_97_173, ze_97_173_n, ze_97_174, ze_97_177, ze_97_180, ze_97_182, ze_97_183, ze_97_186, ze_97_186_n, ze_97_187, ze_97_189, ze_97_190, ze_97_192, ze_97_195, ze_97_198, ze_97_199, ze_97_201, ze_97_204, ze_97_207, ze_97_209, ze_97_212, ze_97_213, ze_97_215, ze_97_215_i, ze_97_216, ze_97_217, ze_97_219, ze_97_220, ze_97_220_i, ze_97_221, ze_97_222, ze_97_223, ze_97_224, ze_97_224_n, ze_97_225, ze_97_228, ze_97_231, ze_97_232, ze_97_232_n, z_k_r, z_push_s, z_push_n, okS_0, okS_I, okS_R, okS_A, List.getElem?_cons_zero, List.getElem?_cons_succ, List.length_cons, List.length_nil, List.set_cons_zero, List.set_cons_succ, true_and, and_true, z_tI, z_tB, pk_mul, nI_add, cI_cl, cI_ix, nar_0, nar_1, nar_b, Nat.reduceAdd, Nat.reduceLT, Nat.reduceMul, ↓lG_R, ↓lG_C, ↓lG_N, ↓lG_G, ↓lG_n, ↓lG_4, ↓lG_5, ↓lG_6, lG_o, ↓lG_q1, lG_q1, ↓lG_q2, lG_q2, ↓lG_q3, lG_q3, ↓lG_q4, lG_q4, ↓lG_a1, lG_a1, ↓lG_a2, lG_a2, ↓lG_a4, lG_a4, lH_R, lH_C, lH_N, lH_G, lH_n, lH_4, lH_5, lH_6, lH_q1, lH_q2, lH_q3, lH_q4, lH_a1, lH_a2, lH_a4, cI_lt, cI_eq, ↓reduceIte, if_true, if_false, Nat.lt_irrefl, eq_self, Nat.reduceEqDiff, or_true, true_or, or_false, false_or, not_false_eq_true, not_true_eq_false, ce_5, zb_t, zb_f]
  | k + 1, i, b, h => by
    have hC := hg.C5
    have hi : i < S.C := by omega
    have cn := fun P => l_can (g := g) (d := d - 1) (f := f) (q := q) (P := P) (Q := Q) (X := X) hg hr hi hs
    have go := fun b => l_onlyR hg hd hr hj hs (z := z) k (i + 1) b (by omega)
    rw [ze_97_68, aF_s]
    simp (disch := omega) only [ze_97_0, ze_97_0_n, ze_97_1, ze_97_2, ze_97_3, ze_97_6, ze_97_7, ze_97_8, ze_97_11, ze_97_12, ze_97_12_n, ze_97_13, ze_97_14, ze_97_17, ze_97_18, ze_97_21, ze_97_22, ze_97_24, ze_97_24_i, ze_97_25, ze_97_26, ze_97_27, ze_97_30, ze_97_31, ze_97_31_i, ze_97_32, ze_97_33, ze_97_34, ze_97_35, ze_97_35_n, ze_97_36, ze_97_37, ze_97_39, ze_97_41, ze_97_41_n, ze_97_42, ze_97_45, ze_97_48, ze_97_48_n, ze_97_49, ze_97_50, ze_97_51, ze_97_53, ze_97_56, ze_97_59, ze_97_62, ze_97_63, ze_97_65, ze_97_66, ze_97_70, ze_97_70_n, ze_97_71, ze_97_74, ze_97_77, ze_97_79, ze_97_80, ze_97_83, ze_97_83_n, ze_97_84, ze_97_85, ze_97_87, ze_97_89, ze_97_92, ze_97_95, ze_97_96, ze_97_98, ze_97_101, ze_97_106, ze_97_109, ze_97_110, ze_97_112, ze_97_112_i, ze_97_113, ze_97_114, ze_97_116, ze_97_117, ze_97_117_i, ze_97_118, ze_97_119, ze_97_120, ze_97_121, ze_97_121_n, ze_97_122, ze_97_125, ze_97_128, ze_97_129, ze_97_131, ze_97_133, ze_97_133_n, ze_97_134, ze_97_137, ze_97_140, ze_97_140_n, ze_97_141, ze_97_144, ze_97_144_n, ze_97_145, ze_97_148, ze_97_151, ze_97_151_n, ze_97_152, ze_97_153, ze_97_154, ze_97_156, ze_97_159, ze_97_162, ze_97_165, ze_97_166, ze_97_168, ze_97_169, ze_97_171, ze_97_173, ze_97_173_n, ze_97_174, ze_97_177, ze_97_180, ze_97_182, ze_97_183, ze_97_186, ze_97_186_n, ze_97_187, ze_97_189, ze_97_190, ze_97_192, ze_97_195, ze_97_198, ze_97_199, ze_97_201, ze_97_204, ze_97_207, ze_97_209, ze_97_212, ze_97_213, ze_97_215, ze_97_215_i, ze_97_216, ze_97_217, ze_97_219, ze_97_220, ze_97_220_i, ze_97_221, ze_97_222, ze_97_223, ze_97_224, ze_97_224_n, ze_97_225, ze_97_228, ze_97_231, ze_97_232, ze_97_232_n, z_k_r, z_push_s, z_push_n, okS_0, okS_I, okS_R, okS_A, List.getElem?_cons_zero, List.getElem?_cons_succ, List.length_cons, List.length_nil, List.set_cons_zero, List.set_cons_succ, true_and, and_true, z_tI, z_tB, pk_mul, nI_add, cI_cl, cI_ix, nar_0, nar_1, nar_b, Nat.reduceAdd, Nat.reduceLT, Nat.reduceMul, ↓lG_R, ↓lG_C, ↓lG_N, ↓lG_G, ↓lG_n, ↓lG_4, ↓lG_5, ↓lG_6, lG_o, ↓lG_q1, lG_q1, ↓lG_q2, lG_q2, ↓lG_q3, lG_q3, ↓lG_q4, lG_q4, ↓lG_a1, lG_a1, ↓lG_a2, lG_a2, ↓lG_a4, lG_a4, lH_R, lH_C, lH_N, lH_G, lH_n, lH_4, lH_5, lH_6, lH_q1, lH_q2, lH_q3, lH_q4, lH_a1, lH_a2, lH_a4, cI_lt, cI_eq, ↓reduceIte, if_true, if_false, Nat.lt_irrefl, eq_self, Nat.reduceEqDiff, or_true, true_or, or_false, false_or, not_false_eq_true, not_true_eq_false, ce_5, zb_t, zb_f, hi, hd, ↓cn, zb_0]
    by_cases e : i = j
    · subst e
      simp only [ne_eq, not_true_eq_false, decide_false, Bool.false_and, Bool.false_or, if_true]
      exact go b
    · simp only [e, ne_eq, not_false_eq_true, decide_true, Bool.true_and, if_false]
      cases e2 : S.cd r i s
      · simp only [Bool.false_or, if_true]
        exact go b
      · simp only [Bool.true_or, Bool.not_true, Bool.and_false, Bool.true_eq_false, if_false]
        have := go false
        rw [Bool.false_and, zb_f] at this
        exact this
theorem l_onlyC (hg : GI S) (hd : 0 < d) {r j s : Nat} (hr : r < S.R) (hj : j < S.C) (hs : s < S.C) {z : Value} : ∀ (k i : Nat) (b : Bool), i + k = S.R → z_T g d 97 171 [.ref Q, .int (nI r), .int (nI j), z, .int (nI s), .int (zb b), .int (nI i)] [] (lgw f Q S X, q) P = z_T g d 97 207 [.ref Q, .int (nI r), .int (nI j), z, .int (nI s), .int (zb (b && !aF (fun x => decide (x ≠ r) && S.cd x j s) i k)), .int (nI S.R)] [] (lgw f Q S X, q) P
  | 0, i, b, h => by
    have hC := hg.C5
    have hR := hg.RC
    have : i = S.R := by omega
    subst this
    rw [ze_97_171, aF_z, Bool.not_false, Bool.and_true]
    simp (disch := omega) only [ze_97_0, ze_97_0_n, ze_97_1, ze_97_2, ze_97_3, ze_97_6, ze_97_7, ze_97_8, ze_97_11, ze_97_12, ze_97_12_n, ze_97_13, ze_97_14, ze_97_17, ze_97_18, ze_97_21, ze_97_22, ze_97_24, ze_97_24_i, ze_97_25, ze_97_26, ze_97_27, ze_97_30, ze_97_31, ze_97_31_i, ze_97_32, ze_97_33, ze_97_34, ze_97_35, ze_97_35_n, ze_97_36, ze_97_37, ze_97_39, ze_97_41, ze_97_41_n, ze_97_42, ze_97_45, ze_97_48, ze_97_48_n, ze_97_49, ze_97_50, ze_97_51, ze_97_53, ze_97_56, ze_97_59, ze_97_62, ze_97_63, ze_97_65, ze_97_66, ze_97_68, ze_97_70, ze_97_70_n, ze_97_71, ze_97_74, ze_97_77, ze_97_79, ze_97_80, ze_97_83, ze_97_83_n, ze_97_84, ze_97_85, ze_97_87, ze_97_89, ze_97_92, ze_97_95, ze_97_96, ze_97_98, ze_97_101, ze_97_104, ze_97_106, ze_97_109, ze_97_110, ze_97_112, ze_97_112_i, ze_97_113, ze_97_114, ze_97_116, ze_97_117, ze_97_117_i, ze_97_118, ze_97_119, ze_97_120, ze_97_121, ze_97_121_n, ze_97_122, ze_97_125, ze_97_128, ze_97_129, ze_97_131, ze_97_133, ze_97_133_n, ze_97_134, ze_97_137, ze_97_140, ze_97_140_n, ze_97_141, ze_97_144, ze_97_144_n, ze_97_145, ze_97_148, ze_97_151, ze_97_151_n, ze_97_152, ze_97_153, ze_97_154, ze_97_156, ze_97_159, ze_97_162, ze_97_165, ze_97_166, ze_97_168, ze_97_169, ze_97_173, ze_97_173_n, ze_97_174, ze_97_177, ze_97_180, ze_97_182, ze_97_183, ze_97_186, ze_97_186_n, ze_97_187, ze_97_189, ze_97_190, ze_97_192, ze_97_195, ze_97_198, ze_97_199, ze_97_201, ze_97_204, ze_97_209, ze_97_212, ze_97_213, ze_97_215, ze_97_215_i, ze_97_216, ze_97_217, ze_97_219, ze_97_220, ze_97_220_i, ze_97_221, ze_97_222, ze_97_223, ze_97_224, ze_97_224_n, ze_97_225, ze_97_228, ze_97_231, ze_97_232, ze_97_232_n, z_k_r, z_push_s, z_push_n, okS_0, okS_I, okS_R, okS_A, List.getElem?_cons_zero, List.getElem?_cons_succ, List.length_cons, List.length_nil, List.set_cons_zero, List.set_cons_succ, true_and, and_true, z_tI, z_tB, pk_mul, nI_add, cI_cl, cI_ix, nar_0, nar_1, nar_b, Nat.reduceAdd, Nat.reduceLT, Nat.reduceMul, ↓lG_R, ↓lG_C, ↓lG_N, ↓lG_G, ↓lG_n, ↓lG_4, ↓lG_5, ↓lG_6, lG_o, ↓lG_q1, lG_q1, ↓lG_q2, lG_q2, ↓lG_q3, lG_q3, ↓lG_q4, lG_q4, ↓lG_a1, lG_a1, ↓lG_a2, lG_a2, ↓lG_a4, lG_a4, lH_R, lH_C, lH_N, lH_G, lH_n, lH_4, lH_5, lH_6, lH_q1, lH_q2, lH_q3, lH_q4, lH_a1, lH_a2, lH_a4, cI_lt, cI_eq, ↓reduceIte, if_true, if_false, Nat.lt_irrefl, eq_self, Nat.reduceEqDiff, or_true, true_or, or_false, false_or, not_false_eq_true, not_true_eq_false, ce_5, zb_t, zb_f]
  | k + 1, i, b, h => by
    have hC := hg.C5
    have hR := hg.RC
    have hi : i < S.R := by omega
    have cn := fun P => l_can (g := g) (d := d - 1) (f := f) (q := q) (P := P) (Q := Q) (X := X) hg hi hj hs
    have go := fun b => l_onlyC hg hd hr hj hs (z := z) k (i + 1) b (by omega)
    rw [ze_97_171, aF_s]
    simp (disch := omega) only [ze_97_0, ze_97_0_n, ze_97_1, ze_97_2, ze_97_3, ze_97_6, ze_97_7, ze_97_8, ze_97_11, ze_97_12, ze_97_12_n, ze_97_13, ze_97_14, ze_97_17, ze_97_18, ze_97_21, ze_97_22, ze_97_24, ze_97_24_i, ze_97_25, ze_97_26, ze_97_27, ze_97_30, ze_97_31, ze_97_31_i, ze_97_32, ze_97_33, ze_97_34, ze_97_35, ze_97_35_n, ze_97_36, ze_97_37, ze_97_39, ze_97_41, ze_97_41_n, ze_97_42, ze_97_45, ze_97_48, ze_97_48_n, ze_97_49, ze_97_50, ze_97_51, ze_97_53, ze_97_56, ze_97_59, ze_97_62, ze_97_63, ze_97_65, ze_97_66, ze_97_68, ze_97_70, ze_97_70_n, ze_97_71, ze_97_74, ze_97_77, ze_97_79, ze_97_80, ze_97_83, ze_97_83_n, ze_97_84, ze_97_85, ze_97_87, ze_97_89, ze_97_92, ze_97_95, ze_97_96, ze_97_98, ze_97_101, ze_97_104, ze_97_106, ze_97_109, ze_97_110, ze_97_112, ze_97_112_i, ze_97_113, ze_97_114, ze_97_116, ze_97_117, ze_97_117_i, ze_97_118, ze_97_119, ze_97_120, ze_97_121, ze_97_121_n, ze_97_122, ze_97_125, ze_97_128, ze_97_129, ze_97_131, ze_97_133, ze_97_133_n, ze_97_134, ze_97_137, ze_97_140, ze_97_140_n, ze_97_141, ze_97_144, ze_97_144_n, ze_97_145, ze_97_148, ze_97_151, ze_97_151_n, ze_97_152, ze_97_153, ze_97_154, ze_97_156, ze_97_159, ze_97_162, ze_97_165, ze_97_166, ze_97_168, ze_97_169, ze_97_173, ze_97_173_n, ze_97_174, ze_97_177, ze_97_180, ze_97_182, ze_97_183, ze_97_186, ze_97_186_n, ze_97_187, ze_97_189, ze_97_190, ze_97_192, ze_97_195, ze_97_198, ze_97_199, ze_97_201, ze_97_204, ze_97_209, ze_97_212, ze_97_213, ze_97_215, ze_97_215_i, ze_97_216, ze_97_217, ze_97_219, ze_97_220, ze_97_220_i, ze_97_221, ze_97_222, ze_97_223, ze_97_224, ze_97_224_n, ze_97_225, ze_97_228, ze_97_231, ze_97_232, ze_97_232_n, z_k_r, z_push_s, z_push_n, okS_0, okS_I, okS_R, okS_A, List.getElem?_cons_zero, List.getElem?_cons_succ, List.length_cons, List.length_nil, List.set_cons_zero, List.set_cons_succ, true_and, and_true, z_tI, z_tB, pk_mul, nI_add, cI_cl, cI_ix, nar_0, nar_1, nar_b, Nat.reduceAdd, Nat.reduceLT, Nat.reduceMul, ↓lG_R, ↓lG_C, ↓lG_N, ↓lG_G, ↓lG_n, ↓lG_4, ↓lG_5, ↓lG_6, lG_o, ↓lG_q1, lG_q1, ↓lG_q2, lG_q2, ↓lG_q3, lG_q3, ↓lG_q4, lG_q4, ↓lG_a1, lG_a1, ↓lG_a2, lG_a2, ↓lG_a4, lG_a4, lH_R, lH_C, lH_N, lH_G, lH_n, lH_4, lH_5, lH_6, lH_q1, lH_q2, lH_q3, lH_q4, lH_a1, lH_a2, lH_a4, cI_lt, cI_eq, ↓reduceIte, if_true, if_false, Nat.lt_irrefl, eq_self, Nat.reduceEqDiff, or_true, true_or, or_false, false_or, not_false_eq_true, not_true_eq_false, ce_5, zb_t, zb_f, hi, hd, ↓cn, zb_0]
    by_cases e : i = r
    · subst e
      simp only [ne_eq, not_true_eq_false, decide_false, Bool.false_and, Bool.false_or, if_true]
      exact go b
    · simp only [e, ne_eq, not_false_eq_true, decide_true, Bool.true_and, if_false]
      cases e2 : S.cd i j s
      · simp only [Bool.false_or, if_true]
        exact go b
      · simp only [Bool.true_or, Bool.not_true, Bool.and_false, Bool.true_eq_false, if_false]
        have := go false
        rw [Bool.false_and, zb_f] at this
        exact this
/-- the first symbol that has no other place -/
theorem l_fc1 (hg : GI S) (hd : 0 < d) {r j : Nat} (hr : r < S.R) (hj : j < S.C) {z : Value} {E : Prop} (hO : low (S.eR r j) = 5 → ∀ u v, z_T g d 97 128 [.ref Q, .int (nI r), .int (nI j), z, .int (nI S.C), u, v] [] (lgw f Q S X, some N, x, y) P = E) : ∀ (k s : Nat) (u v : Value), s + k = S.C → (∀ t, t < s → S.eR r j t = false) → z_T g d 97 39 [.ref Q, .int (nI r), .int (nI j), z, .int (nI s), u, v] [] (lgw f Q S X, some N, x, y) P = if low (S.eR r j) = 5 then E else P (.inr (some (.ref N)), (z_up (lgw f Q S X) N (a2c (nI (low (S.eR r j))) (nI 2)), some (N + 1), x + 1, y + 2))
  | 0, s, u, v, h, hn => by
    have hC := hg.C5
    have : s = S.C := by omega
    subst this
    have l5 : low (S.eR r j) = 5 := low_5.mpr fun t ht => by
      by_cases e : t < S.C
      · exact hn t e
      · unfold GS.eR GS.cd
        rw [decide_eq_false e]
        rfl
    rw [if_pos l5, ← hO l5 u v, ze_97_39]
    simp (disch := omega) only [ze_97_0, ze_97_0_n, ze_97_1, ze_97_2, ze_97_3, ze_97_6, ze_97_7, ze_97_8, ze_97_11, ze_97_12, ze_97_12_n, ze_97_13, ze_97_14, ze_97_17, ze_97_18, ze_97_21, ze_97_22, ze_97_24, ze_97_24_i, ze_97_25, ze_97_26, ze_97_27, ze_97_30, ze_97_31, ze_97_31_i, ze_97_32, ze_97_33, ze_97_34, ze_97_35, ze_97_35_n, ze_97_36, ze_97_37, ze_97_41, ze_97_41_n, ze_97_42, ze_97_45, ze_97_48, ze_97_48_n, ze_97_49, ze_97_50, ze_97_51, ze_97_53, ze_97_56, ze_97_59, ze_97_62, ze_97_63, ze_97_65, ze_97_66, ze_97_68, ze_97_70, ze_97_70_n, ze_97_71, ze_97_74, ze_97_77, ze_97_79, ze_97_80, ze_97_83, ze_97_83_n, ze_97_84, ze_97_85, ze_97_87, ze_97_89, ze_97_92, ze_97_95, ze_97_96, ze_97_98, ze_97_101, ze_97_104, ze_97_106, ze_97_109, ze_97_110, ze_97_112, ze_97_112_i, ze_97_113, ze_97_114, ze_97_116, ze_97_117, ze_97_117_i, ze_97_118, ze_97_119, ze_97_120, ze_97_121, ze_97_121_n, ze_97_122, ze_97_125, ze_97_129, ze_97_131, ze_97_133, ze_97_133_n, ze_97_134, ze_97_137, ze_97_140, ze_97_140_n, ze_97_141, ze_97_144, ze_97_144_n, ze_97_145, ze_97_148, ze_97_151, ze_97_151_n, ze_97_152, ze_97_153, ze_97_154, ze_97_156, ze_97_159, ze_97_162, ze_97_165, ze_97_166, ze_97_168, ze_97_169, ze_97_171, ze_97_173, ze_97_173_n, ze_97_174, ze_97_177, ze_97_180, ze_97_182, ze_97_183, ze_97_186, ze_97_186_n, ze_97_187, ze_97_189, ze_97_190, ze_97_192, ze_97_195, ze_97_198, ze_97_199, ze_97_201, ze_97_204, ze_97_207, ze_97_209, ze_97_212, ze_97_213, ze_97_215, ze_97_215_i, ze_97_216, ze_97_217, ze_97_219, ze_97_220, ze_97_220_i, ze_97_221, ze_97_222, ze_97_223, ze_97_224, ze_97_224_n, ze_97_225, ze_97_228, ze_97_231, ze_97_232, ze_97_232_n, z_k_r, z_push_s, z_push_n, okS_0, okS_I, okS_R, okS_A, List.getElem?_cons_zero, List.getElem?_cons_succ, List.length_cons, List.length_nil, List.set_cons_zero, List.set_cons_succ, true_and, and_true, z_tI, z_tB, pk_mul, nI_add, cI_cl, cI_ix, nar_0, nar_1, nar_b, Nat.reduceAdd, Nat.reduceLT, Nat.reduceMul, ↓lG_R, ↓lG_C, ↓lG_N, ↓lG_G, ↓lG_n, ↓lG_4, ↓lG_5, ↓lG_6, lG_o, ↓lG_q1, lG_q1, ↓lG_q2, lG_q2, ↓lG_q3, lG_q3, ↓lG_q4, lG_q4, ↓lG_a1, lG_a1, ↓lG_a2, lG_a2, ↓lG_a4, lG_a4, lH_R, lH_C, lH_N, lH_G, lH_n, lH_4, lH_5, lH_6, lH_q1, lH_q2, lH_q3, lH_q4, lH_a1, lH_a2, lH_a4, cI_lt, cI_eq, ↓reduceIte, if_true, if_false, Nat.lt_irrefl, eq_self, Nat.reduceEqDiff, or_true, true_or, or_false, false_or, not_false_eq_true, not_true_eq_false, ce_5, zb_t, zb_f]
  | k + 1, s, u, v, h, hn => by
    have hC := hg.C5
    have hs : s < S.C := by omega
    have cn := fun P => l_can (g := g) (d := d - 1) (f := f) (q := (some N, x, y)) (P := P) (Q := Q) (X := X) hg hr hj hs
    have on := l_onlyR (g := g) (f := f) (q := (some N, x, y)) (P := P) (Q := Q) (X := X) hg hd hr hj hs (z := z) S.C 0 true (Nat.zero_add _)
    rw [aF_any, Bool.true_and, zb_t] at on
    have go : ∀ u v, S.eR r j s = false → _ := fun u v e => l_fc1 hg hd hr hj hO k (s + 1) u v (by omega) (fun t ht => by
      by_cases z : t = s
      · rw [z]; exact e
      · exact hn t (by omega))
    have yes : S.eR r j s = true → low (S.eR r j) = s := fun e => low_is (by omega) e hn
    rw [ze_97_39]
    simp (disch := omega) only [ze_97_0, ze_97_0_n, ze_97_1, ze_97_2, ze_97_3, ze_97_6, ze_97_7, ze_97_8, ze_97_11, ze_97_12, ze_97_12_n, ze_97_13, ze_97_14, ze_97_17, ze_97_18, ze_97_21, ze_97_22, ze_97_24, ze_97_24_i, ze_97_25, ze_97_26, ze_97_27, ze_97_30, ze_97_31, ze_97_31_i, ze_97_32, ze_97_33, ze_97_34, ze_97_35, ze_97_35_n, ze_97_36, ze_97_37, ze_97_41, ze_97_41_n, ze_97_42, ze_97_45, ze_97_48, ze_97_48_n, ze_97_49, ze_97_50, ze_97_51, ze_97_53, ze_97_56, ze_97_59, ze_97_62, ze_97_63, ze_97_65, ze_97_66, ze_97_70, ze_97_70_n, ze_97_71, ze_97_74, ze_97_77, ze_97_79, ze_97_80, ze_97_83, ze_97_83_n, ze_97_84, ze_97_85, ze_97_87, ze_97_89, ze_97_92, ze_97_95, ze_97_96, ze_97_98, ze_97_101, ze_97_104, ze_97_106, ze_97_109, ze_97_110, ze_97_112, ze_97_112_i, ze_97_113, ze_97_114, ze_97_116, ze_97_117, ze_97_117_i, ze_97_118, ze_97_119, ze_97_120, ze_97_121, ze_97_121_n, ze_97_122, ze_97_125, ze_97_129, ze_97_131, ze_97_133, ze_97_133_n, ze_97_134, ze_97_137, ze_97_140, ze_97_140_n, ze_97_141, ze_97_144, ze_97_144_n, ze_97_145, ze_97_148, ze_97_151, ze_97_151_n, ze_97_152, ze_97_153, ze_97_154, ze_97_156, ze_97_159, ze_97_162, ze_97_165, ze_97_166, ze_97_168, ze_97_169, ze_97_171, ze_97_173, ze_97_173_n, ze_97_174, ze_97_177, ze_97_180, ze_97_182, ze_97_183, ze_97_186, ze_97_186_n, ze_97_187, ze_97_189, ze_97_190, ze_97_192, ze_97_195, ze_97_198, ze_97_199, ze_97_201, ze_97_204, ze_97_207, ze_97_209, ze_97_212, ze_97_213, ze_97_215, ze_97_215_i, ze_97_216, ze_97_217, ze_97_219, ze_97_220, ze_97_220_i, ze_97_221, ze_97_222, ze_97_223, ze_97_224, ze_97_224_n, ze_97_225, ze_97_228, ze_97_231, ze_97_232, ze_97_232_n, z_k_r, z_push_s, z_push_n, okS_0, okS_I, okS_R, okS_A, List.getElem?_cons_zero, List.getElem?_cons_succ, List.length_cons, List.length_nil, List.set_cons_zero, List.set_cons_succ, true_and, and_true, z_tI, z_tB, pk_mul, nI_add, cI_cl, cI_ix, nar_0, nar_1, nar_b, Nat.reduceAdd, Nat.reduceLT, Nat.reduceMul, ↓lG_R, ↓lG_C, ↓lG_N, ↓lG_G, ↓lG_n, ↓lG_4, ↓lG_5, ↓lG_6, lG_o, ↓lG_q1, lG_q1, ↓lG_q2, lG_q2, ↓lG_q3, lG_q3, ↓lG_q4, lG_q4, ↓lG_a1, lG_a1, ↓lG_a2, lG_a2, ↓lG_a4, lG_a4, lH_R, lH_C, lH_N, lH_G, lH_n, lH_4, lH_5, lH_6, lH_q1, lH_q2, lH_q3, lH_q4, lH_a1, lH_a2, lH_a4, cI_lt, cI_eq, ↓reduceIte, if_true, if_false, Nat.lt_irrefl, eq_self, Nat.reduceEqDiff, or_true, true_or, or_false, false_or, not_false_eq_true, not_true_eq_false, ce_5, zb_t, zb_f, hs, hd, ↓cn, zb_0, on]
    unfold GS.eR at go yes ⊢
    cases e2 : S.cd r j s
    · simp only [e2, Bool.false_and] at go
      simp only [if_true]
      exact go _ _ trivial
    · simp only [e2, Bool.true_and] at go yes
      simp only [Bool.true_eq_false, if_false]
      cases e3 : anyB (fun x => decide (x ≠ j) && S.cd r x s) S.C
      · simp only [e3, Bool.not_false] at yes
        have ys := yes trivial
        have ns : ¬ s = 5 := by omega
        rw [ys, if_neg ns]
        simp (disch := omega) only [Bool.not_false, Bool.true_eq_false, if_false, ze_97_0, ze_97_0_n, ze_97_1, ze_97_2, ze_97_3, ze_97_6, ze_97_7, ze_97_8, ze_97_11, ze_97_12, ze_97_12_n, ze_97_13, ze_97_14, ze_97_17, ze_97_18, ze_97_21, ze_97_22, ze_97_24, ze_97_24_i, ze_97_25, ze_97_26, ze_97_27, ze_97_30, ze_97_31, ze_97_31_i, ze_97_32, ze_97_33, ze_97_34, ze_97_35, ze_97_35_n, ze_97_36, ze_97_37, ze_97_41, ze_97_41_n, ze_97_42, ze_97_45, ze_97_48, ze_97_48_n, ze_97_49, ze_97_50, ze_97_51, ze_97_53, ze_97_56, ze_97_59, ze_97_62, ze_97_63, ze_97_65, ze_97_66, ze_97_70, ze_97_70_n, ze_97_71, ze_97_74, ze_97_77, ze_97_79, ze_97_80, ze_97_83, ze_97_83_n, ze_97_84, ze_97_85, ze_97_87, ze_97_89, ze_97_92, ze_97_95, ze_97_96, ze_97_98, ze_97_101, ze_97_104, ze_97_106, ze_97_109, ze_97_110, ze_97_112, ze_97_112_i, ze_97_113, ze_97_114, ze_97_116, ze_97_117, ze_97_117_i, ze_97_118, ze_97_119, ze_97_120, ze_97_121, ze_97_121_n, ze_97_122, ze_97_125, ze_97_129, ze_97_131, ze_97_133, ze_97_133_n, ze_97_134, ze_97_137, ze_97_140, ze_97_140_n, ze_97_141, ze_97_144, ze_97_144_n, ze_97_145, ze_97_148, ze_97_151, ze_97_151_n, ze_97_152, ze_97_153, ze_97_154, ze_97_156, ze_97_159, ze_97_162, ze_97_165, ze_97_166, ze_97_168, ze_97_169, ze_97_171, ze_97_173, ze_97_173_n, ze_97_174, ze_97_177, ze_97_180, ze_97_182, ze_97_183, ze_97_186, ze_97_186_n, ze_97_187, ze_97_189, ze_97_190, ze_97_192, ze_97_195, ze_97_198, ze_97_199, ze_97_201, ze_97_204, ze_97_207, ze_97_209, ze_97_212, ze_97_213, ze_97_215, ze_97_215_i, ze_97_216, ze_97_217, ze_97_219, ze_97_220, ze_97_220_i, ze_97_221, ze_97_222, ze_97_223, ze_97_224, ze_97_224_n, ze_97_225, ze_97_228, ze_97_231, ze_97_232, ze_97_232_n, z_k_r, z_push_s, z_push_n, okS_0, okS_I, okS_R, okS_A, List.getElem?_cons_zero, List.getElem?_cons_succ, List.length_cons, List.length_nil, List.set_cons_zero, List.set_cons_succ, true_and, and_true, z_tI, z_tB, pk_mul, nI_add, cI_cl, cI_ix, nar_0, nar_1, nar_b, Nat.reduceAdd, Nat.reduceLT, Nat.reduceMul, nA_i, sA_i]
        rfl
      · simp only [e3, Bool.not_true] at go
        simp only [Bool.not_true, if_true]
        exact go _ _ trivial
theorem l_fc2 (hg : GI S) (hd : 0 < d) {r j : Nat} (hr : r < S.R) (hj : j < S.C) {z : Value} {E : Prop} (hRC : S.R = S.C) (hO : low (S.eC r j) = 5 → ∀ u v, z_T g d 97 231 [.ref Q, .int (nI r), .int (nI j), z, .int (nI S.C), u, v] [] (lgw f Q S X, some N, x, y) P = E) : ∀ (k s : Nat) (u v : Value), s + k = S.C → (∀ t, t < s → S.eC r j t = false) → z_T g d 97 131 [.ref Q, .int (nI r), .int (nI j), z, .int (nI s), u, v] [] (lgw f Q S X, some N, x, y) P = if low (S.eC r j) = 5 then E else P (.inr (some (.ref N)), (z_up (lgw f Q S X) N (a2c (nI (low (S.eC r j))) (nI 3)), some (N + 1), x + 1, y + 2))
  | 0, s, u, v, h, hn => by
    have hC := hg.C5
    have : s = S.C := by omega
    subst this
    have l5 : low (S.eC r j) = 5 := low_5.mpr fun t ht => by
      by_cases e : t < S.C
      · exact hn t e
      · unfold GS.eC GS.cd
        rw [decide_eq_false e]
        rfl
    rw [if_pos l5, ← hO l5 u v, ze_97_131]
    simp (disch := omega) only [ze_97_0, ze_97_0_n, ze_97_1, ze_97_2, ze_97_3, ze_97_6, ze_97_7, ze_97_8, ze_97_11, ze_97_12, ze_97_12_n, ze_97_13, ze_97_14, ze_97_17, ze_97_18, ze_97_21, ze_97_22, ze_97_24, ze_97_24_i, ze_97_25, ze_97_26, ze_97_27, ze_97_30, ze_97_31, ze_97_31_i, ze_97_32, ze_97_33, ze_97_34, ze_97_35, ze_97_35_n, ze_97_36, ze_97_37, ze_97_39, ze_97_41, ze_97_41_n, ze_97_42, ze_97_45, ze_97_48, ze_97_48_n, ze_97_49, ze_97_50, ze_97_51, ze_97_53, ze_97_56, ze_97_59, ze_97_62, ze_97_63, ze_97_65, ze_97_66, ze_97_68, ze_97_70, ze_97_70_n, ze_97_71, ze_97_74, ze_97_77, ze_97_79, ze_97_80, ze_97_83, ze_97_83_n, ze_97_84, ze_97_85, ze_97_87, ze_97_89, ze_97_92, ze_97_95, ze_97_96, ze_97_98, ze_97_101, ze_97_104, ze_97_106, ze_97_109, ze_97_110, ze_97_112, ze_97_112_i, ze_97_113, ze_97_114, ze_97_116, ze_97_117, ze_97_117_i, ze_97_118, ze_97_119, ze_97_120, ze_97_121, ze_97_121_n, ze_97_122, ze_97_125, ze_97_128, ze_97_129, ze_97_133, ze_97_133_n, ze_97_134, ze_97_137, ze_97_140, ze_97_140_n, ze_97_141, ze_97_144, ze_97_144_n, ze_97_145, ze_97_148, ze_97_151, ze_97_151_n, ze_97_152, ze_97_153, ze_97_154, ze_97_156, ze_97_159, ze_97_162, ze_97_165, ze_97_166, ze_97_168, ze_97_169, ze_97_171, ze_97_173, ze_97_173_n, ze_97_174, ze_97_177, ze_97_180, ze_97_182, ze_97_183, ze_97_186, ze_97_186_n, ze_97_187, ze_97_189, ze_97_190, ze_97_192, ze_97_195, ze_97_198, ze_97_199, ze_97_201, ze_97_204, ze_97_207, ze_97_209, ze_97_212, ze_97_213, ze_97_215, ze_97_215_i, ze_97_216, ze_97_217, ze_97_219, ze_97_220, ze_97_220_i, ze_97_221, ze_97_222, ze_97_223, ze_97_224, ze_97_224_n, ze_97_225, ze_97_228, ze_97_232, ze_97_232_n, z_k_r, z_push_s, z_push_n, okS_0, okS_I, okS_R, okS_A, List.getElem?_cons_zero, List.getElem?_cons_succ, List.length_cons, List.length_nil, List.set_cons_zero, List.set_cons_succ, true_and, and_true, z_tI, z_tB, pk_mul, nI_add, cI_cl, cI_ix, nar_0, nar_1, nar_b, Nat.reduceAdd, Nat.reduceLT, Nat.reduceMul, ↓lG_R, ↓lG_C, ↓lG_N, ↓lG_G, ↓lG_n, ↓lG_4, ↓lG_5, ↓lG_6, lG_o, ↓lG_q1, lG_q1, ↓lG_q2, lG_q2, ↓lG_q3, lG_q3, ↓lG_q4, lG_q4, ↓lG_a1, lG_a1, ↓lG_a2, lG_a2, ↓lG_a4, lG_a4, lH_R, lH_C, lH_N, lH_G, lH_n, lH_4, lH_5, lH_6, lH_q1, lH_q2, lH_q3, lH_q4, lH_a1, lH_a2, lH_a4, cI_lt, cI_eq, ↓reduceIte, if_true, if_false, Nat.lt_irrefl, eq_self, Nat.reduceEqDiff, or_true, true_or, or_false, false_or, not_false_eq_true, not_true_eq_false, ce_5, zb_t, zb_f]
  | k + 1, s, u, v, h, hn => by
    have hC := hg.C5
    have hR := hg.RC
    have hs : s < S.C := by omega
    have cn := fun P => l_can (g := g) (d := d - 1) (f := f) (q := (some N, x, y)) (P := P) (Q := Q) (X := X) hg hr hj hs
    have on := l_onlyC (g := g) (f := f) (q := (some N, x, y)) (P := P) (Q := Q) (X := X) hg hd hr hj hs (z := z) S.R 0 true (Nat.zero_add _)
    rw [aF_any, Bool.true_and, zb_t] at on
    have go : ∀ u v, S.eC r j s = false → _ := fun u v e => l_fc2 hg hd hr hj hRC hO k (s + 1) u v (by omega) (fun t ht => by
      by_cases z : t = s
      · rw [z]; exact e
      · exact hn t (by omega))
    have yes : S.eC r j s = true → low (S.eC r j) = s := fun e => low_is (by omega) e hn
    rw [ze_97_131]
    simp (disch := omega) only [ze_97_0, ze_97_0_n, ze_97_1, ze_97_2, ze_97_3, ze_97_6, ze_97_7, ze_97_8, ze_97_11, ze_97_12, ze_97_12_n, ze_97_13, ze_97_14, ze_97_17, ze_97_18, ze_97_21, ze_97_22, ze_97_24, ze_97_24_i, ze_97_25, ze_97_26, ze_97_27, ze_97_30, ze_97_31, ze_97_31_i, ze_97_32, ze_97_33, ze_97_34, ze_97_35, ze_97_35_n, ze_97_36, ze_97_37, ze_97_39, ze_97_41, ze_97_41_n, ze_97_42, ze_97_45, ze_97_48, ze_97_48_n, ze_97_49, ze_97_50, ze_97_51, ze_97_53, ze_97_56, ze_97_59, ze_97_62, ze_97_63, ze_97_65, ze_97_66, ze_97_68, ze_97_70, ze_97_70_n, ze_97_71, ze_97_74, ze_97_77, ze_97_79, ze_97_80, ze_97_83, ze_97_83_n, ze_97_84, ze_97_85, ze_97_87, ze_97_89, ze_97_92, ze_97_95, ze_97_96, ze_97_98, ze_97_101, ze_97_104, ze_97_106, ze_97_109, ze_97_110, ze_97_112, ze_97_112_i, ze_97_113, ze_97_114, ze_97_116, ze_97_117, ze_97_117_i, ze_97_118, ze_97_119, ze_97_120, ze_97_121, ze_97_121_n, ze_97_122, ze_97_125, ze_97_128, ze_97_129, ze_97_133, ze_97_133_n, ze_97_134, ze_97_137, ze_97_140, ze_97_140_n, ze_97_141, ze_97_144, ze_97_144_n, ze_97_145, ze_97_148, ze_97_151, ze_97_151_n, ze_97_152, ze_97_153, ze_97_154, ze_97_156, ze_97_159, ze_97_162, ze_97_165, ze_97_166, ze_97_168, ze_97_169, ze_97_173, ze_97_173_n, ze_97_174, ze_97_177, ze_97_180, ze_97_182, ze_97_183, ze_97_186, ze_97_186_n, ze_97_187, ze_97_189, ze_97_190, ze_97_192, ze_97_195, ze_97_198, ze_97_199, ze_97_201, ze_97_204, ze_97_207, ze_97_209, ze_97_212, ze_97_213, ze_97_215, ze_97_215_i, ze_97_216, ze_97_217, ze_97_219, ze_97_220, ze_97_220_i, ze_97_221, ze_97_222, ze_97_223, ze_97_224, ze_97_224_n, ze_97_225, ze_97_228, ze_97_232, ze_97_232_n, z_k_r, z_push_s, z_push_n, okS_0, okS_I, okS_R, okS_A, List.getElem?_cons_zero, List.getElem?_cons_succ, List.length_cons, List.length_nil, List.set_cons_zero, List.set_cons_succ, true_and, and_true, z_tI, z_tB, pk_mul, nI_add, cI_cl, cI_ix, nar_0, nar_1, nar_b, Nat.reduceAdd, Nat.reduceLT, Nat.reduceMul, ↓lG_R, ↓lG_C, ↓lG_N, ↓lG_G, ↓lG_n, ↓lG_4, ↓lG_5, ↓lG_6, lG_o, ↓lG_q1, lG_q1, ↓lG_q2, lG_q2, ↓lG_q3, lG_q3, ↓lG_q4, lG_q4, ↓lG_a1, lG_a1, ↓lG_a2, lG_a2, ↓lG_a4, lG_a4, lH_R, lH_C, lH_N, lH_G, lH_n, lH_4, lH_5, lH_6, lH_q1, lH_q2, lH_q3, lH_q4, lH_a1, lH_a2, lH_a4, cI_lt, cI_eq, ↓reduceIte, if_true, if_false, Nat.lt_irrefl, eq_self, Nat.reduceEqDiff, or_true, true_or, or_false, false_or, not_false_eq_true, not_true_eq_false, ce_5, zb_t, zb_f, hs, hd, ↓cn, zb_0, on]
    rw [if_pos hRC]
    unfold GS.eC at go yes ⊢
    cases e2 : S.cd r j s
    · simp only [e2, Bool.false_and] at go
      simp only [if_true]
      exact go _ _ trivial
    · simp only [e2, Bool.true_and] at go yes
      simp only [Bool.true_eq_false, if_false]
      cases e3 : anyB (fun x => decide (x ≠ r) && S.cd x j s) S.R
      · simp only [e3, Bool.not_false] at yes
        have ys := yes trivial
        have ns : ¬ s = 5 := by omega
        rw [ys, if_neg ns]
        simp (disch := omega) only [Bool.not_false, Bool.true_eq_false, if_false, ze_97_0, ze_97_0_n, ze_97_1, ze_97_2, ze_97_3, ze_97_6, ze_97_7, ze_97_8, ze_97_11, ze_97_12, ze_97_12_n, ze_97_13, ze_97_14, ze_97_17, ze_97_18, ze_97_21, ze_97_22, ze_97_24, ze_97_24_i, ze_97_25, ze_97_26, ze_97_27, ze_97_30, ze_97_31, ze_97_31_i, ze_97_32, ze_97_33, ze_97_34, ze_97_35, ze_97_35_n, ze_97_36, ze_97_37, ze_97_39, ze_97_41, ze_97_41_n, ze_97_42, ze_97_45, ze_97_48, ze_97_48_n, ze_97_49, ze_97_50, ze_97_51, ze_97_53, ze_97_56, ze_97_59, ze_97_62, ze_97_63, ze_97_65, ze_97_66, ze_97_68, ze_97_70, ze_97_70_n, ze_97_71, ze_97_74, ze_97_77, ze_97_79, ze_97_80, ze_97_83, ze_97_83_n, ze_97_84, ze_97_85, ze_97_87, ze_97_89, ze_97_92, ze_97_95, ze_97_96, ze_97_98, ze_97_101, ze_97_104, ze_97_106, ze_97_109, ze_97_110, ze_97_112, ze_97_112_i, ze_97_113, ze_97_114, ze_97_116, ze_97_117, ze_97_117_i, ze_97_118, ze_97_119, ze_97_120, ze_97_121, ze_97_121_n, ze_97_122, ze_97_125, ze_97_128, ze_97_129, ze_97_133, ze_97_133_n, ze_97_134, ze_97_137, ze_97_140, ze_97_140_n, ze_97_141, ze_97_144, ze_97_144_n, ze_97_145, ze_97_148, ze_97_151, ze_97_151_n, ze_97_152, ze_97_153, ze_97_154, ze_97_156, ze_97_159, ze_97_162, ze_97_165, ze_97_166, ze_97_168, ze_97_169, ze_97_173, ze_97_173_n, ze_97_174, ze_97_177, ze_97_180, ze_97_182, ze_97_183, ze_97_186, ze_97_186_n, ze_97_187, ze_97_189, ze_97_190, ze_97_192, ze_97_195, ze_97_198, ze_97_199, ze_97_201, ze_97_204, ze_97_207, ze_97_209, ze_97_212, ze_97_213, ze_97_215, ze_97_215_i, ze_97_216, ze_97_217, ze_97_219, ze_97_220, ze_97_220_i, ze_97_221, ze_97_222, ze_97_223, ze_97_224, ze_97_224_n, ze_97_225, ze_97_228, ze_97_232, ze_97_232_n, z_k_r, z_push_s, z_push_n, okS_0, okS_I, okS_R, okS_A, List.getElem?_cons_zero, List.getElem?_cons_succ, List.length_cons, List.length_nil, List.set_cons_zero, List.set_cons_succ, true_and, and_true, z_tI, z_tB, pk_mul, nI_add, cI_cl, cI_ix, nar_0, nar_1, nar_b, Nat.reduceAdd, Nat.reduceLT, Nat.reduceMul, nA_i, sA_i]
        rfl
      · simp only [e3, Bool.not_true] at go
        simp only [Bool.not_true, if_true]
        exact go _ _ trivial
theorem l_forced (hg : GI S) (hd : 1 < d) {r j : Nat} (hr : r < S.R) (hj : j < S.C) : z_Ca g d 97 [.ref Q, .int (nI r), .int (nI j)] (lgw f Q S X, some N, x, y) P = if S.rs r j = 0 then P (.inr (some .null), (lgw f Q S X, some N, x, y)) else P (.inr (some (.ref N)), (z_up (lgw f Q S X) N (a2c (nI (S.fs r j)) (nI (S.rs r j))), some (N + 1), x + 1, y + 2)) := by
  have hC := hg.C5
  have hR := hg.RC
  have hd0 : 0 < d := by omega
  have cs := fun P => l_cands (g := g) (d := d - 1) (f := f) (q := (some N, x, y)) (P := P) (Q := Q) (X := X) hg (by omega) hr hj
  have bc := fun (h : z_H) P => s_bitCount (g := g) (d := d - 1) (h := h) (P := P) (S.cd r j)
  rw [zn_97]
  simp (disch := omega) only [ze_97_0, ze_97_0_n, ze_97_1, ze_97_2, ze_97_3, ze_97_6, ze_97_7, ze_97_8, ze_97_11, ze_97_12, ze_97_12_n, ze_97_13, ze_97_14, ze_97_17, ze_97_18, ze_97_21, ze_97_22, ze_97_24, ze_97_24_i, ze_97_25, ze_97_26, ze_97_27, ze_97_30, ze_97_31, ze_97_31_i, ze_97_32, ze_97_33, ze_97_34, ze_97_35, ze_97_35_n, ze_97_36, ze_97_37, ze_97_41, ze_97_41_n, ze_97_42, ze_97_45, ze_97_48, ze_97_48_n, ze_97_49, ze_97_50, ze_97_51, ze_97_53, ze_97_56, ze_97_59, ze_97_62, ze_97_63, ze_97_65, ze_97_66, ze_97_68, ze_97_70, ze_97_70_n, ze_97_71, ze_97_74, ze_97_77, ze_97_79, ze_97_80, ze_97_83, ze_97_83_n, ze_97_84, ze_97_85, ze_97_87, ze_97_89, ze_97_92, ze_97_95, ze_97_96, ze_97_98, ze_97_101, ze_97_104, ze_97_106, ze_97_109, ze_97_110, ze_97_112, ze_97_112_i, ze_97_113, ze_97_114, ze_97_116, ze_97_117, ze_97_117_i, ze_97_118, ze_97_119, ze_97_120, ze_97_121, ze_97_121_n, ze_97_122, ze_97_125, ze_97_128, ze_97_129, ze_97_133, ze_97_133_n, ze_97_134, ze_97_137, ze_97_140, ze_97_140_n, ze_97_141, ze_97_144, ze_97_144_n, ze_97_145, ze_97_148, ze_97_151, ze_97_151_n, ze_97_152, ze_97_153, ze_97_154, ze_97_156, ze_97_159, ze_97_162, ze_97_165, ze_97_166, ze_97_168, ze_97_169, ze_97_171, ze_97_173, ze_97_173_n, ze_97_174, ze_97_177, ze_97_180, ze_97_182, ze_97_183, ze_97_186, ze_97_186_n, ze_97_187, ze_97_189, ze_97_190, ze_97_192, ze_97_195, ze_97_198, ze_97_199, ze_97_201, ze_97_204, ze_97_207, ze_97_209, ze_97_212, ze_97_213, ze_97_215, ze_97_215_i, ze_97_216, ze_97_217, ze_97_219, ze_97_220, ze_97_220_i, ze_97_221, ze_97_222, ze_97_223, ze_97_224, ze_97_224_n, ze_97_225, ze_97_228, ze_97_231, ze_97_232, ze_97_232_n, z_k_r, z_push_s, z_push_n, okS_0, okS_I, okS_R, okS_A, List.getElem?_cons_zero, List.getElem?_cons_succ, List.length_cons, List.length_nil, List.set_cons_zero, List.set_cons_succ, true_and, and_true, z_tI, z_tB, pk_mul, nI_add, cI_cl, cI_ix, nar_0, nar_1, nar_b, Nat.reduceAdd, Nat.reduceLT, Nat.reduceMul, ↓lG_R, ↓lG_C, ↓lG_N, ↓lG_G, ↓lG_n, ↓lG_4, ↓lG_5, ↓lG_6, lG_o, ↓lG_q1, lG_q1, ↓lG_q2, lG_q2, ↓lG_q3, lG_q3, ↓lG_q4, lG_q4, ↓lG_a1, lG_a1, ↓lG_a2, lG_a2, ↓lG_a4, lG_a4, lH_R, lH_C, lH_N, lH_G, lH_n, lH_4, lH_5, lH_6, lH_q1, lH_q2, lH_q3, lH_q4, lH_a1, lH_a2, lH_a4, cI_lt, cI_eq, ↓reduceIte, if_true, if_false, Nat.lt_irrefl, eq_self, Nat.reduceEqDiff, or_true, true_or, or_false, false_or, not_false_eq_true, not_true_eq_false, ce_5, zb_t, zb_f, hd0, ↓cs]
  by_cases e0 : sS (S.cd r j) = nI 0
  · rw [if_pos e0, if_pos (eR_5 (sS_eq0 ▸ e0))]
  · rw [if_neg e0]
    have l0 : low (S.cd r j) ≠ 5 := fun z => e0 (sS_low ▸ z)
    have hp5 := pop_lt (S.cd r j)
    simp (disch := omega) only [↓bc, z_k_r, z_push_s, z_push_n, okS_0, okS_I, okS_R, okS_A, List.getElem?_cons_zero, List.getElem?_cons_succ, List.length_cons, List.length_nil, List.set_cons_zero, List.set_cons_succ, true_and, and_true, z_tI, z_tB, pk_mul, nI_add, cI_cl, cI_ix, nar_0, nar_1, nar_b, Nat.reduceAdd, Nat.reduceLT, Nat.reduceMul, ze_97_0, ze_97_0_n, ze_97_1, ze_97_2, ze_97_3, ze_97_6, ze_97_7, ze_97_8, ze_97_11, ze_97_12, ze_97_12_n, ze_97_13, ze_97_14, ze_97_17, ze_97_18, ze_97_21, ze_97_22, ze_97_24, ze_97_24_i, ze_97_25, ze_97_26, ze_97_27, ze_97_30, ze_97_31, ze_97_31_i, ze_97_32, ze_97_33, ze_97_34, ze_97_35, ze_97_35_n, ze_97_36, ze_97_37, ze_97_41, ze_97_41_n, ze_97_42, ze_97_45, ze_97_48, ze_97_48_n, ze_97_49, ze_97_50, ze_97_51, ze_97_53, ze_97_56, ze_97_59, ze_97_62, ze_97_63, ze_97_65, ze_97_66, ze_97_68, ze_97_70, ze_97_70_n, ze_97_71, ze_97_74, ze_97_77, ze_97_79, ze_97_80, ze_97_83, ze_97_83_n, ze_97_84, ze_97_85, ze_97_87, ze_97_89, ze_97_92, ze_97_95, ze_97_96, ze_97_98, ze_97_101, ze_97_104, ze_97_106, ze_97_109, ze_97_110, ze_97_112, ze_97_112_i, ze_97_113, ze_97_114, ze_97_116, ze_97_117, ze_97_117_i, ze_97_118, ze_97_119, ze_97_120, ze_97_121, ze_97_121_n, ze_97_122, ze_97_125, ze_97_128, ze_97_129, ze_97_133, ze_97_133_n, ze_97_134, ze_97_137, ze_97_140, ze_97_140_n, ze_97_141, ze_97_144, ze_97_144_n, ze_97_145, ze_97_148, ze_97_151, ze_97_151_n, ze_97_152, ze_97_153, ze_97_154, ze_97_156, ze_97_159, ze_97_162, ze_97_165, ze_97_166, ze_97_168, ze_97_169, ze_97_171, ze_97_173, ze_97_173_n, ze_97_174, ze_97_177, ze_97_180, ze_97_182, ze_97_183, ze_97_186, ze_97_186_n, ze_97_187, ze_97_189, ze_97_190, ze_97_192, ze_97_195, ze_97_198, ze_97_199, ze_97_201, ze_97_204, ze_97_207, ze_97_209, ze_97_212, ze_97_213, ze_97_215, ze_97_215_i, ze_97_216, ze_97_217, ze_97_219, ze_97_220, ze_97_220_i, ze_97_221, ze_97_222, ze_97_223, ze_97_224, ze_97_224_n, ze_97_225, ze_97_228, ze_97_231, ze_97_232, ze_97_232_n, cI_lt, cI_eq, ↓reduceIte, if_true, if_false, Nat.lt_irrefl, eq_self, Nat.reduceEqDiff, or_true, true_or, or_false, false_or, not_false_eq_true, not_true_eq_false, ce_5, zb_t, zb_f]
    by_cases e1 : pop (S.cd r j) = 1
    · have nt := fun (h : z_H) P => s_ntz (g := g) (d := d - 1) (h := h) (P := P) l0
      have r1 : S.rs r j = 1 := by unfold GS.rs; rw [if_pos e1]
      have f1 : S.fs r j = low (S.cd r j) := by unfold GS.fs GS.fb; rw [r1]; rfl
      rw [if_pos e1, r1, f1, if_neg (by omega)]
      simp (disch := omega) only [ze_97_0, ze_97_0_n, ze_97_1, ze_97_2, ze_97_3, ze_97_6, ze_97_7, ze_97_8, ze_97_11, ze_97_12, ze_97_12_n, ze_97_13, ze_97_14, ze_97_17, ze_97_18, ze_97_21, ze_97_22, ze_97_24, ze_97_24_i, ze_97_25, ze_97_26, ze_97_27, ze_97_30, ze_97_31, ze_97_31_i, ze_97_32, ze_97_33, ze_97_34, ze_97_35, ze_97_35_n, ze_97_36, ze_97_37, ze_97_41, ze_97_41_n, ze_97_42, ze_97_45, ze_97_48, ze_97_48_n, ze_97_49, ze_97_50, ze_97_51, ze_97_53, ze_97_56, ze_97_59, ze_97_62, ze_97_63, ze_97_65, ze_97_66, ze_97_68, ze_97_70, ze_97_70_n, ze_97_71, ze_97_74, ze_97_77, ze_97_79, ze_97_80, ze_97_83, ze_97_83_n, ze_97_84, ze_97_85, ze_97_87, ze_97_89, ze_97_92, ze_97_95, ze_97_96, ze_97_98, ze_97_101, ze_97_104, ze_97_106, ze_97_109, ze_97_110, ze_97_112, ze_97_112_i, ze_97_113, ze_97_114, ze_97_116, ze_97_117, ze_97_117_i, ze_97_118, ze_97_119, ze_97_120, ze_97_121, ze_97_121_n, ze_97_122, ze_97_125, ze_97_128, ze_97_129, ze_97_133, ze_97_133_n, ze_97_134, ze_97_137, ze_97_140, ze_97_140_n, ze_97_141, ze_97_144, ze_97_144_n, ze_97_145, ze_97_148, ze_97_151, ze_97_151_n, ze_97_152, ze_97_153, ze_97_154, ze_97_156, ze_97_159, ze_97_162, ze_97_165, ze_97_166, ze_97_168, ze_97_169, ze_97_171, ze_97_173, ze_97_173_n, ze_97_174, ze_97_177, ze_97_180, ze_97_182, ze_97_183, ze_97_186, ze_97_186_n, ze_97_187, ze_97_189, ze_97_190, ze_97_192, ze_97_195, ze_97_198, ze_97_199, ze_97_201, ze_97_204, ze_97_207, ze_97_209, ze_97_212, ze_97_213, ze_97_215, ze_97_215_i, ze_97_216, ze_97_217, ze_97_219, ze_97_220, ze_97_220_i, ze_97_221, ze_97_222, ze_97_223, ze_97_224, ze_97_224_n, ze_97_225, ze_97_228, ze_97_231, ze_97_232, ze_97_232_n, z_k_r, z_push_s, z_push_n, okS_0, okS_I, okS_R, okS_A, List.getElem?_cons_zero, List.getElem?_cons_succ, List.length_cons, List.length_nil, List.set_cons_zero, List.set_cons_succ, true_and, and_true, z_tI, z_tB, pk_mul, nI_add, cI_cl, cI_ix, nar_0, nar_1, nar_b, Nat.reduceAdd, Nat.reduceLT, Nat.reduceMul, hd0, nA_i, sA_i, ↓nt]
      rfl
    · rw [if_neg e1]
      have w2 : low (S.eR r j) = 5 → ∀ u v, z_T g d 97 128 [.ref Q, .int (nI r), .int (nI j), .int (sS (S.cd r j)), .int (nI S.C), u, v] [] (lgw f Q S X, some N, x, y) P = if S.rs r j = 0 then P (.inr (some .null), (lgw f Q S X, some N, x, y)) else P (.inr (some (.ref N)), (z_up (lgw f Q S X) N (a2c (nI (S.fs r j)) (nI (S.rs r j))), some (N + 1), x + 1, y + 2)) := by
        intro eR u v
        have rs : S.rs r j = if S.R = S.C ∧ low (S.eC r j) ≠ 5 then 3 else 0 := by
          unfold GS.rs
          rw [if_neg e1, if_neg (fun z => z eR)]
        by_cases eq : S.R = S.C
        · have w := l_fc2 (g := g) (f := f) (N := N) (x := x) (y := y) (P := P) (Q := Q) (X := X) hg hd0 hr hj eq (z := .int (sS (S.cd r j))) (E := P (.inr (some .null), (lgw f Q S X, some N, x, y))) (fun _ u v => by simp only [ze_97_0, ze_97_0_n, ze_97_1, ze_97_2, ze_97_3, ze_97_6, ze_97_7, ze_97_8, ze_97_11, ze_97_12, ze_97_12_n, ze_97_13, ze_97_14, ze_97_17, ze_97_18, ze_97_21, ze_97_22, ze_97_24, ze_97_24_i, ze_97_25, ze_97_26, ze_97_27, ze_97_30, ze_97_31, ze_97_31_i, ze_97_32, ze_97_33, ze_97_34, ze_97_35, ze_97_35_n, ze_97_36, ze_97_37, ze_97_41, ze_97_41_n, ze_97_42, ze_97_45, ze_97_48, ze_97_48_n, ze_97_49, ze_97_50, ze_97_51, ze_97_53, ze_97_56, ze_97_59, ze_97_62, ze_97_63, ze_97_65, ze_97_66, ze_97_68, ze_97_70, ze_97_70_n, ze_97_71, ze_97_74, ze_97_77, ze_97_79, ze_97_80, ze_97_83, ze_97_83_n, ze_97_84, ze_97_85, ze_97_87, ze_97_89, ze_97_92, ze_97_95, ze_97_96, ze_97_98, ze_97_101, ze_97_104, ze_97_106, ze_97_109, ze_97_110, ze_97_112, ze_97_112_i, ze_97_113, ze_97_114, ze_97_116, ze_97_117, ze_97_117_i, ze_97_118, ze_97_119, ze_97_120, ze_97_121, ze_97_121_n, ze_97_122, ze_97_125, ze_97_128, ze_97_129, ze_97_133, ze_97_133_n, ze_97_134, ze_97_137, ze_97_140, ze_97_140_n, ze_97_141, ze_97_144, ze_97_144_n, ze_97_145, ze_97_148, ze_97_151, ze_97_151_n, ze_97_152, ze_97_153, ze_97_154, ze_97_156, ze_97_159, ze_97_162, ze_97_165, ze_97_166, ze_97_168, ze_97_169, ze_97_171, ze_97_173, ze_97_173_n, ze_97_174, ze_97_177, ze_97_180, ze_97_182, ze_97_183, ze_97_186, ze_97_186_n, ze_97_187, ze_97_189, ze_97_190, ze_97_192, ze_97_195, ze_97_198, ze_97_199, ze_97_201, ze_97_204, ze_97_207, ze_97_209, ze_97_212, ze_97_213, ze_97_215, ze_97_215_i, ze_97_216, ze_97_217, ze_97_219, ze_97_220, ze_97_220_i, ze_97_221, ze_97_222, ze_97_223, ze_97_224, ze_97_224_n, ze_97_225, ze_97_228, ze_97_231, ze_97_232, ze_97_232_n]) S.C 0 u v (Nat.zero_add _) (fun t ht => absurd ht (Nat.not_lt_zero t))
          simp only [ze_97_0, ze_97_0_n, ze_97_1, ze_97_2, ze_97_3, ze_97_6, ze_97_7, ze_97_8, ze_97_11, ze_97_12, ze_97_12_n, ze_97_13, ze_97_14, ze_97_17, ze_97_18, ze_97_21, ze_97_22, ze_97_24, ze_97_24_i, ze_97_25, ze_97_26, ze_97_27, ze_97_30, ze_97_31, ze_97_31_i, ze_97_32, ze_97_33, ze_97_34, ze_97_35, ze_97_35_n, ze_97_36, ze_97_37, ze_97_41, ze_97_41_n, ze_97_42, ze_97_45, ze_97_48, ze_97_48_n, ze_97_49, ze_97_50, ze_97_51, ze_97_53, ze_97_56, ze_97_59, ze_97_62, ze_97_63, ze_97_65, ze_97_66, ze_97_68, ze_97_70, ze_97_70_n, ze_97_71, ze_97_74, ze_97_77, ze_97_79, ze_97_80, ze_97_83, ze_97_83_n, ze_97_84, ze_97_85, ze_97_87, ze_97_89, ze_97_92, ze_97_95, ze_97_96, ze_97_98, ze_97_101, ze_97_104, ze_97_106, ze_97_109, ze_97_110, ze_97_112, ze_97_112_i, ze_97_113, ze_97_114, ze_97_116, ze_97_117, ze_97_117_i, ze_97_118, ze_97_119, ze_97_120, ze_97_121, ze_97_121_n, ze_97_122, ze_97_125, ze_97_128, ze_97_129, ze_97_133, ze_97_133_n, ze_97_134, ze_97_137, ze_97_140, ze_97_140_n, ze_97_141, ze_97_144, ze_97_144_n, ze_97_145, ze_97_148, ze_97_151, ze_97_151_n, ze_97_152, ze_97_153, ze_97_154, ze_97_156, ze_97_159, ze_97_162, ze_97_165, ze_97_166, ze_97_168, ze_97_169, ze_97_171, ze_97_173, ze_97_173_n, ze_97_174, ze_97_177, ze_97_180, ze_97_182, ze_97_183, ze_97_186, ze_97_186_n, ze_97_187, ze_97_189, ze_97_190, ze_97_192, ze_97_195, ze_97_198, ze_97_199, ze_97_201, ze_97_204, ze_97_207, ze_97_209, ze_97_212, ze_97_213, ze_97_215, ze_97_215_i, ze_97_216, ze_97_217, ze_97_219, ze_97_220, ze_97_220_i, ze_97_221, ze_97_222, ze_97_223, ze_97_224, ze_97_224_n, ze_97_225, ze_97_228, ze_97_231, ze_97_232, ze_97_232_n, z_k_r, z_push_s, z_push_n, okS_0, okS_I, okS_R, okS_A, List.getElem?_cons_zero, List.getElem?_cons_succ, List.length_cons, List.length_nil, List.set_cons_zero, List.set_cons_succ, true_and, and_true, z_tI, z_tB, pk_mul, nI_add, cI_cl, cI_ix, nar_0, nar_1, nar_b, Nat.reduceAdd, Nat.reduceLT, Nat.reduceMul]
          rw [w]
          by_cases eC : low (S.eC r j) = 5
          · have r0 : S.rs r j = 0 := rs.trans (if_neg (fun z => z.2 eC))
            rw [if_pos eC, if_pos r0]
          · have r3 : S.rs r j = 3 := by rw [rs, if_pos ⟨eq, eC⟩]
            have f3 : S.fs r j = low (S.eC r j) := by unfold GS.fs GS.fb; rw [r3]; rfl
            rw [if_neg eC, r3, f3, if_neg (by omega)]
        · have r0 : S.rs r j = 0 := rs.trans (if_neg (fun z => eq z.1))
          rw [if_pos r0]
          have c0 : 0 < S.C := by omega
          simp (disch := omega) only [ze_97_0, ze_97_0_n, ze_97_1, ze_97_2, ze_97_3, ze_97_6, ze_97_7, ze_97_8, ze_97_11, ze_97_12, ze_97_12_n, ze_97_13, ze_97_14, ze_97_17, ze_97_18, ze_97_21, ze_97_22, ze_97_24, ze_97_24_i, ze_97_25, ze_97_26, ze_97_27, ze_97_30, ze_97_31, ze_97_31_i, ze_97_32, ze_97_33, ze_97_34, ze_97_35, ze_97_35_n, ze_97_36, ze_97_37, ze_97_41, ze_97_41_n, ze_97_42, ze_97_45, ze_97_48, ze_97_48_n, ze_97_49, ze_97_50, ze_97_51, ze_97_53, ze_97_56, ze_97_59, ze_97_62, ze_97_63, ze_97_65, ze_97_66, ze_97_68, ze_97_70, ze_97_70_n, ze_97_71, ze_97_74, ze_97_77, ze_97_79, ze_97_80, ze_97_83, ze_97_83_n, ze_97_84, ze_97_85, ze_97_87, ze_97_89, ze_97_92, ze_97_95, ze_97_96, ze_97_98, ze_97_101, ze_97_104, ze_97_106, ze_97_109, ze_97_110, ze_97_112, ze_97_112_i, ze_97_113, ze_97_114, ze_97_116, ze_97_117, ze_97_117_i, ze_97_118, ze_97_119, ze_97_120, ze_97_121, ze_97_121_n, ze_97_122, ze_97_125, ze_97_128, ze_97_129, ze_97_133, ze_97_133_n, ze_97_134, ze_97_137, ze_97_140, ze_97_140_n, ze_97_141, ze_97_144, ze_97_144_n, ze_97_145, ze_97_148, ze_97_151, ze_97_151_n, ze_97_152, ze_97_153, ze_97_154, ze_97_156, ze_97_159, ze_97_162, ze_97_165, ze_97_166, ze_97_168, ze_97_169, ze_97_171, ze_97_173, ze_97_173_n, ze_97_174, ze_97_177, ze_97_180, ze_97_182, ze_97_183, ze_97_186, ze_97_186_n, ze_97_187, ze_97_189, ze_97_190, ze_97_192, ze_97_195, ze_97_198, ze_97_199, ze_97_201, ze_97_204, ze_97_207, ze_97_209, ze_97_212, ze_97_213, ze_97_215, ze_97_215_i, ze_97_216, ze_97_217, ze_97_219, ze_97_220, ze_97_220_i, ze_97_221, ze_97_222, ze_97_223, ze_97_224, ze_97_224_n, ze_97_225, ze_97_228, ze_97_231, ze_97_232, ze_97_232_n, z_k_r, z_push_s, z_push_n, okS_0, okS_I, okS_R, okS_A, List.getElem?_cons_zero, List.getElem?_cons_succ, List.length_cons, List.length_nil, List.set_cons_zero, List.set_cons_succ, true_and, and_true, z_tI, z_tB, pk_mul, nI_add, cI_cl, cI_ix, nar_0, nar_1, nar_b, Nat.reduceAdd, Nat.reduceLT, Nat.reduceMul]
          rw [ze_97_131]
          simp (disch := omega) only [ze_97_0, ze_97_0_n, ze_97_1, ze_97_2, ze_97_3, ze_97_6, ze_97_7, ze_97_8, ze_97_11, ze_97_12, ze_97_12_n, ze_97_13, ze_97_14, ze_97_17, ze_97_18, ze_97_21, ze_97_22, ze_97_24, ze_97_24_i, ze_97_25, ze_97_26, ze_97_27, ze_97_30, ze_97_31, ze_97_31_i, ze_97_32, ze_97_33, ze_97_34, ze_97_35, ze_97_35_n, ze_97_36, ze_97_37, ze_97_41, ze_97_41_n, ze_97_42, ze_97_45, ze_97_48, ze_97_48_n, ze_97_49, ze_97_50, ze_97_51, ze_97_53, ze_97_56, ze_97_59, ze_97_62, ze_97_63, ze_97_65, ze_97_66, ze_97_68, ze_97_70, ze_97_70_n, ze_97_71, ze_97_74, ze_97_77, ze_97_79, ze_97_80, ze_97_83, ze_97_83_n, ze_97_84, ze_97_85, ze_97_87, ze_97_89, ze_97_92, ze_97_95, ze_97_96, ze_97_98, ze_97_101, ze_97_104, ze_97_106, ze_97_109, ze_97_110, ze_97_112, ze_97_112_i, ze_97_113, ze_97_114, ze_97_116, ze_97_117, ze_97_117_i, ze_97_118, ze_97_119, ze_97_120, ze_97_121, ze_97_121_n, ze_97_122, ze_97_125, ze_97_128, ze_97_129, ze_97_133, ze_97_133_n, ze_97_134, ze_97_137, ze_97_140, ze_97_140_n, ze_97_141, ze_97_144, ze_97_144_n, ze_97_145, ze_97_148, ze_97_151, ze_97_151_n, ze_97_152, ze_97_153, ze_97_154, ze_97_156, ze_97_159, ze_97_162, ze_97_165, ze_97_166, ze_97_168, ze_97_169, ze_97_171, ze_97_173, ze_97_173_n, ze_97_174, ze_97_177, ze_97_180, ze_97_182, ze_97_183, ze_97_186, ze_97_186_n, ze_97_187, ze_97_189, ze_97_190, ze_97_192, ze_97_195, ze_97_198, ze_97_199, ze_97_201, ze_97_204, ze_97_207, ze_97_209, ze_97_212, ze_97_213, ze_97_215, ze_97_215_i, ze_97_216, ze_97_217, ze_97_219, ze_97_220, ze_97_220_i, ze_97_221, ze_97_222, ze_97_223, ze_97_224, ze_97_224_n, ze_97_225, ze_97_228, ze_97_231, ze_97_232, ze_97_232_n, z_k_r, z_push_s, z_push_n, okS_0, okS_I, okS_R, okS_A, List.getElem?_cons_zero, List.getElem?_cons_succ, List.length_cons, List.length_nil, List.set_cons_zero, List.set_cons_succ, true_and, and_true, z_tI, z_tB, pk_mul, nI_add, cI_cl, cI_ix, nar_0, nar_1, nar_b, Nat.reduceAdd, Nat.reduceLT, Nat.reduceMul, ↓lG_R, ↓lG_C, ↓lG_N, ↓lG_G, ↓lG_n, ↓lG_4, ↓lG_5, ↓lG_6, lG_o, ↓lG_q1, lG_q1, ↓lG_q2, lG_q2, ↓lG_q3, lG_q3, ↓lG_q4, lG_q4, ↓lG_a1, lG_a1, ↓lG_a2, lG_a2, ↓lG_a4, lG_a4, lH_R, lH_C, lH_N, lH_G, lH_n, lH_4, lH_5, lH_6, lH_q1, lH_q2, lH_q3, lH_q4, lH_a1, lH_a2, lH_a4, cI_lt, cI_eq, ↓reduceIte, if_true, if_false, Nat.lt_irrefl, eq_self, Nat.reduceEqDiff, or_true, true_or, or_false, false_or, not_false_eq_true, not_true_eq_false, ce_5, zb_t, zb_f, c0, eq]
      have w := l_fc1 (g := g) (f := f) (N := N) (x := x) (y := y) (P := P) (Q := Q) (X := X) hg hd0 hr hj (z := .int (sS (S.cd r j))) w2 S.C 0 z_un z_un (Nat.zero_add _) (fun t ht => absurd ht (Nat.not_lt_zero t))
      first
        | rw [w]
        | (simp only [ze_97_0, ze_97_0_n, ze_97_1, ze_97_2, ze_97_3, ze_97_6, ze_97_7, ze_97_8, ze_97_11, ze_97_12, ze_97_12_n, ze_97_13, ze_97_14, ze_97_17, ze_97_18, ze_97_21, ze_97_22, ze_97_24, ze_97_24_i, ze_97_25, ze_97_26, ze_97_27, ze_97_30, ze_97_31, ze_97_31_i, ze_97_32, ze_97_33, ze_97_34, ze_97_35, ze_97_35_n, ze_97_36, ze_97_37, ze_97_41, ze_97_41_n, ze_97_42, ze_97_45, ze_97_48, ze_97_48_n, ze_97_49, ze_97_50, ze_97_51, ze_97_53, ze_97_56, ze_97_59, ze_97_62, ze_97_63, ze_97_65, ze_97_66, ze_97_68, ze_97_70, ze_97_70_n, ze_97_71, ze_97_74, ze_97_77, ze_97_79, ze_97_80, ze_97_83, ze_97_83_n, ze_97_84, ze_97_85, ze_97_87, ze_97_89, ze_97_92, ze_97_95, ze_97_96, ze_97_98, ze_97_101, ze_97_104, ze_97_106, ze_97_109, ze_97_110, ze_97_112, ze_97_112_i, ze_97_113, ze_97_114, ze_97_116, ze_97_117, ze_97_117_i, ze_97_118, ze_97_119, ze_97_120, ze_97_121, ze_97_121_n, ze_97_122, ze_97_125, ze_97_128, ze_97_129, ze_97_133, ze_97_133_n, ze_97_134, ze_97_137, ze_97_140, ze_97_140_n, ze_97_141, ze_97_144, ze_97_144_n, ze_97_145, ze_97_148, ze_97_151, ze_97_151_n, ze_97_152, ze_97_153, ze_97_154, ze_97_156, ze_97_159, ze_97_162, ze_97_165, ze_97_166, ze_97_168, ze_97_169, ze_97_171, ze_97_173, ze_97_173_n, ze_97_174, ze_97_177, ze_97_180, ze_97_182, ze_97_183, ze_97_186, ze_97_186_n, ze_97_187, ze_97_189, ze_97_190, ze_97_192, ze_97_195, ze_97_198, ze_97_199, ze_97_201, ze_97_204, ze_97_207, ze_97_209, ze_97_212, ze_97_213, ze_97_215, ze_97_215_i, ze_97_216, ze_97_217, ze_97_219, ze_97_220, ze_97_220_i, ze_97_221, ze_97_222, ze_97_223, ze_97_224, ze_97_224_n, ze_97_225, ze_97_228, ze_97_231, ze_97_232, ze_97_232_n, z_k_r, z_push_s, z_push_n, okS_0, okS_I, okS_R, okS_A, List.getElem?_cons_zero, List.getElem?_cons_succ, List.length_cons, List.length_nil, List.set_cons_zero, List.set_cons_succ, true_and, and_true, z_tI, z_tB, pk_mul, nI_add, cI_cl, cI_ix, nar_0, nar_1, nar_b, Nat.reduceAdd, Nat.reduceLT, Nat.reduceMul]; rw [w])
      by_cases eR : low (S.eR r j) = 5
      · rw [if_pos eR]
      · have r2 : S.rs r j = 2 := by
          unfold GS.rs
          rw [if_neg e1, if_pos eR]
        have f2 : S.fs r j = low (S.eR r j) := by unfold GS.fs GS.fb; rw [r2]; rfl
        rw [if_neg eR, r2, f2, if_neg (by omega)]
end
