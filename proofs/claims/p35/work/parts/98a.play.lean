/-! the law makes its Grid, and plays -/
section
variable {g : z_G} {d B ga b len : Nat} {S9 : GS} {tb : Nat → Nat} {P : z_Res → Prop}
theorem l_grid {F : Nat → Option z_C} {N x y : Nat} {w : Nat → Int32} (h1 : B + 47 ≤ ga) (h2 : ga < b) (hd : 50 < d) (hsb : SBX (fun z => z < b) F N b 0 (fun _ => 0)) (hcb : CB F B S9 len tb) (hga : F ga = some (inA 1 w)) (hP : ∀ S R C f N' x' y' n m u, GQ B ga b N (NL S) S9 len tb R C S f N' n m u → m ≤ 8 → x' ≤ x + 140 → y' ≤ y + 32000 → P (.inr (some (.ref N)), (lgw f N S X0, some N', x', y'))) : z_Ca g d 145 [.ref b, .ref ga] (F, some N, x, y) P := by
  have hd0 : 0 < d := by omega
  have hbN : b < N := by obtain ⟨v, cap, e⟩ := hsb; exact e.2.2.2.2.2.2.2.2.2.2.2
  obtain ⟨c, w1, hc, d1⟩ := s_draw (g := g) (d := d - 1) hga (by omega : 1 ≤ 4) (by omega : 4 < 1000)
  obtain ⟨C, eC⟩ : ∃ C, C = 2 + c := ⟨_, rfl⟩
  obtain ⟨F1, hF1⟩ : ∃ F1, F1 = z_up F ga (inA 1 w1) := ⟨_, rfl⟩
  rw [← hF1] at d1
  obtain ⟨F2, hF2⟩ : ∃ F2, F2 = z_up F1 N (.inr (10, [.int 0, .int 0, .int 0, .int 0, .null, .null, .null, .int 0, .null, .null, .null, .null])) := ⟨_, rfl⟩
  have ga2 : F2 ga = some (inA 1 w1) := by rw [hF2, z_up_ne (by omega), hF1, z_up_self]
  obtain ⟨r, w2, hr, d2⟩ := s_draw (g := g) (d := d - 1) ga2 (by omega : 1 ≤ C) (by omega : C < 1000)
  obtain ⟨R, eR⟩ : ∃ R, R = 1 + r := ⟨_, rfl⟩
  obtain ⟨F3, hF3⟩ : ∃ F3, F3 = z_up F1 ga (inA 1 w2) := ⟨_, rfl⟩
  have cm : z_up F2 ga (inA 1 w2) = z_up F3 N (.inr (10, [.int 0, .int 0, .int 0, .int 0, .null, .null, .null, .int 0, .null, .null, .null, .null])) := by
    rw [hF2, hF3]
    exact z_up_comm _ _ _ (by omega)
  rw [cm] at d2
  have no : ∀ K : Nat → z_H → Prop, z_nO (F1, some N, x, y) 10 12 [.int 0, .int 0, .int 0, .int 0, .null, .null, .null, .int 0, .null, .null, .null, .null] K = K N (F2, some (N + 1), x + 1, y + 12) := fun K => by rw [hF2]; rfl
  have mk := fun P => l_mk (g := g) (d := d - 1) (F := F3) (Q := N) (x := x + 1) (y := y + 12) (R := R) (C := C) (P := P) (by omega) (by omega) (by omega)
  obtain ⟨L, hL⟩ : ∃ L, L = NL (S0 R C) := ⟨_, rfl⟩
  rw [← hL] at mk
  have f3 : ∀ z, z ≠ ga → F3 z = F z := fun z hz => by rw [hF3, z_up_ne hz, hF1, z_up_ne hz]
  have ga3 : F3 ga = some (inA 1 w2) := by rw [hF3, z_up_self]
  have O : ∀ {F N n u}, SBX (DD b N L) F (N : Nat) b n u → True := fun _ => trivial
  have hsb3 : SBX (DD b N L) (lgw F3 N (S0 R C) X0) (N + L) b 0 (fun _ => 0) := by
    obtain ⟨v, cap, e1, e2, e3, e4, e5, e6, e7, e8, e9, e10, e11, e12⟩ := hsb
    have vb : ¬ v < b := e8
    refine ⟨v, cap, ?_, ?_, e3, e4, e5, e6, e7, fun z => ?_, fun z => ?_, e10, by omega, by omega⟩
    · rw [lg_o (by omega), f3 b (by omega)]; exact e1
    · rw [lg_o (by omega), f3 v (by omega)]; exact e2
    · rcases z with z | z <;> omega
    · rcases z with z | z <;> omega
  have hD : ∀ z, DD b N L z → z < N + L := fun z hz => by rcases hz with hz | hz <;> omega
  have O12 : ∀ {F M n u}, SBX (DD b N L) F M b n u → z_gO F b 12 := fun h => by
    obtain ⟨v, cap, h1, -⟩ := h
    exact sb_O h1
  obtain ⟨x3, ex3⟩ : ∃ x3, x3 = x + 1 + 1 + R + 1 + R + 1 + R * (1 + C) := ⟨_, rfl⟩
  obtain ⟨y3, ey3⟩ : ∃ y3, y3 = y + 12 + R + R * C + R + R * C + R + R * (C + C * C) := ⟨_, rfl⟩
  rw [← ex3, ← ey3] at mk
  have bx : x3 ≤ x + 60 ∧ y3 ≤ y + 300 := by
    have m1 : R * (1 + C) ≤ 5 * 6 := Nat.mul_le_mul (by omega) (by omega)
    have m2 : R * C ≤ 5 * 5 := Nat.mul_le_mul (by omega) (by omega)
    have m3 : C * C ≤ 5 * 5 := Nat.mul_le_mul (by omega) (by omega)
    have m4 : R * (C + C * C) ≤ 5 * 30 := Nat.mul_le_mul (by omega) (by omega)
    omega
  obtain ⟨l3, -, -⟩ := lw_len
  obtain ⟨A1, N1, x4, y4, a1, a2, a3, a4, a5, a6⟩ := sb_str (g := g) (d := d - 1) (x := x3) (y := y3) (k := 3) hsb3 hD (by omega) (by omega) (by omega)
  rw [l3] at a1
  obtain ⟨A2, N2, x5, y5, b1, b2, b3, b4, b5, b6⟩ := sb_dig (g := g) (d := d - 1) (x := x4) (y := y4) (c := R) a1 (fun z hz => by have := hD z hz; omega) (by omega) (by omega) (by omega)
  obtain ⟨A3, N3, x6, y6, c1, c2, c3, c4, c5, c6⟩ := sb_chr (g := g) (d := d - 1) (x := x5) (y := y5) (c := 32) b1 (fun z hz => by have := hD z hz; omega) (by omega) (by omega) (by omega)
  obtain ⟨A4, N4, x7, y7, e1, e2, e3, e4, e5, e6⟩ := sb_dig (g := g) (d := d - 1) (x := x6) (y := y6) (c := C) c1 (fun z hz => by have := hD z hz; omega) (by omega) (by omega) (by omega)
  obtain ⟨A5, N5, x8, y8, g1, g2, g3, g4, g5, g6⟩ := sb_chr (g := g) (d := d - 1) (x := x7) (y := y7) (c := 59) e1 (fun z hz => by have := hD z hz; omega) (by omega) (by omega) (by omega)
  have ag : ∀ z, DD b N L z → A5 z = lgw F3 N (S0 R C) X0 z := fun z hz => by rw [g2 z hz, e2 z hz, c2 z hz, b2 z hz, a2 z hz]
  have ag2 : ∀ z, DD b N L z → A1 z = lgw F3 N (S0 R C) X0 z := a2
  have id5 : lgw A5 N (S0 R C) X0 = A5 := gq_id (b := b) hL.symm ag
  have id1 : lgw A1 N (S0 R C) X0 = A1 := gq_id (b := b) hL.symm ag2
  have lo5 : ∀ z, z < b → A5 z = F3 z := fun z hz => by rw [ag z (.inl hz), lg_o (by omega)]
  obtain ⟨k, w3, hk, d3⟩ := g_draw (g := g) (d := d - 1) (Q := N) (S := S0 R C) (f := A5) (w := w2) (by rw [lo5 ga h2]; exact ga3) (by omega : ga < N) (by omega : 1 ≤ 9) (by omega : 9 < 1000)
  have d3' : ∀ (q : Option Nat × Nat × Nat) (P : z_Res → Prop), z_Ca g (d - 1) 143 [.ref ga, .int (nI 9)] (A5, q) P = P (.inr (some (.int (nI k))), (lgw (z_up A5 ga (inA 1 w3)) N (S0 R C) X0, q)) := fun q P => by
    have := d3 X0 q P
    rw [id5] at this
    exact this
  have rr : ∀ (K : Int32 → Prop), z_gI A1 N 10 0 K = K (nI R) := fun K => by
    have := lH_R A1 N (S0 R C) X0 K
    rw [id1] at this
    exact this
  have hg0 : GI (S0 R C) := GI_S0 (by omega) (by omega) (by omega) (by omega)
  have hQ : GQ B ga b N L S9 len tb R C (S0 R C) A5 N5 (10 + 1 + 1 + 1 + 1) 0 (nu (nu (nu (nu (lu 3 0 fun _ => 0) (0 + 10) (48 + R)) (0 + 10 + 1) 32) (0 + 10 + 1 + 1) (48 + C)) (0 + 10 + 1 + 1 + 1) 59) := by
    refine ⟨hg0, rfl, rfl, hL.symm, PT.head (fun i hi => ?_) ?_ ?_ ?_ ?_ (by omega) (by omega) (by omega) (by omega), by rw [id5]; exact g1, hcb.ag fun z z1 z2 => by rw [lo5 z (by omega), f3 z (by omega)], ⟨w2, by rw [lo5 ga h2]; exact ga3⟩, by omega, Nat.le_refl _, by omega⟩
    · rw [nu_n (by omega), nu_n (by omega), nu_n (by omega), nu_n (by omega)]
      unfold lu
      rw [if_pos ⟨by omega, by omega⟩, Nat.sub_zero]
    · rw [nu_n (by omega), nu_n (by omega), nu_n (by omega)]
      exact nu_s _ _ _
    · rw [nu_n (by omega), nu_n (by omega)]
      exact nu_s _ _ _
    · rw [nu_n (by omega)]
      exact nu_s _ _ _
    · exact nu_s _ _ _
  have fin := l_gl (g := g) (d := d) (B := B) (ga := ga) (b := b) (Q := N) (L := L) (len := len) (R := R) (C := C) (S9 := S9) (tb := tb) (P := P) h1 h2 hbN (by omega) k (S0 R C) (z_up A5 ga (inA 1 w3)) N5 x8 y8 _ 0 _ z_un z_un z_un (by omega) (hQ.dr (w := w3) h1 h2 hbN) (fun S' f' N' x' y' n' m' u' p1 p2 p3 p4 => hP S' R C f' N' x' y' n' m' u' (by have := p1.2.2.2.1; rw [this]; exact p1) p2 (by omega) (by omega))
  have o0 : z_gO (lgw F3 N (S0 R C) X0) b 12 := O12 hsb3
  have o1 := O12 a1
  have o2 := O12 b1
  have o3 := O12 c1
  have o4 := O12 e1
  rw [zn_145]
  simp (disch := omega) only [ze_145_0, ze_145_1, ze_145_1_n, ze_145_2, ze_145_3, ze_145_6, ze_145_7, ze_145_8, ze_145_11, ze_145_11_i, ze_145_12, ze_145_13, ze_145_13_n, ze_145_14, ze_145_15, ze_145_18, ze_145_19, ze_145_20, ze_145_23, ze_145_23_n, ze_145_24, ze_145_24_n, ze_145_25, ze_145_27, ze_145_27_l, ze_145_30, ze_145_30_n, ze_145_31, ze_145_34, ze_145_37, ze_145_39, ze_145_42, ze_145_43, ze_145_46, ze_145_48, ze_145_51_i, ze_145_51, ze_145_52, ze_145_52_n, ze_145_53, ze_145_55, ze_145_58, ze_145_62, ze_145_65, ze_145_65_n, ze_145_66, ze_145_66_n, ze_145_67, ze_145_70, ze_145_73, ze_145_75, ze_145_75_n, ze_145_76, ze_145_77, ze_145_80, ze_145_82, ze_145_82_n, ze_145_83, ze_145_84, ze_145_87, ze_145_89, ze_145_89_n, ze_145_90, ze_145_91, ze_145_94, ze_145_97, ze_145_97_n, ze_145_98, ze_145_100, ze_145_102, ze_145_104, ze_145_107, ze_145_110, ze_145_110_n, ze_145_111, ze_145_114, ze_145_116, ze_145_117, ze_145_119, ze_145_121, ze_145_122, ze_145_122_n, ze_145_123, ze_145_126, ze_145_128, ze_145_129, ze_145_131, ze_145_132, ze_145_133, ze_145_133_n, ze_145_134, ze_145_134_i, ze_145_135, ze_145_138, ze_145_139, ze_145_140, ze_145_143, ze_145_143_n, ze_145_144, ze_145_146, ze_145_146_l, ze_145_149, ze_145_151, ze_145_154, ze_145_156, ze_145_159, ze_145_161, ze_145_164, ze_145_166, ze_145_169, ze_145_171, ze_145_174, ze_145_176, ze_145_179_i, ze_145_179, ze_145_180, ze_145_183, ze_145_183_n, ze_145_184, ze_145_187, ze_145_189, ze_145_190, ze_145_192, ze_145_193, ze_145_195, ze_145_196, ze_145_199, ze_145_199_n, ze_145_200, ze_145_203, ze_145_205, ze_145_206, ze_145_208, ze_145_209, ze_145_211, ze_145_214, ze_145_214_n, ze_145_215, ze_145_218, ze_145_220, ze_145_221, ze_145_223, ze_145_224, ze_145_226, ze_145_227, ze_145_228, ze_145_228_n, ze_145_229, ze_145_229_i, ze_145_230, ze_145_233, ze_145_234, ze_145_235, ze_145_238, ze_145_238_n, ze_145_239, ze_145_241, ze_145_241_l, ze_145_244, ze_145_246, ze_145_249, ze_145_251, ze_145_254, ze_145_256, ze_145_259, ze_145_261, ze_145_264, ze_145_266, ze_145_269, ze_145_271, ze_145_274_i, ze_145_274, ze_145_275, ze_145_278, ze_145_281, ze_145_281_n, ze_145_282, ze_145_282_n, z_k_r, z_push_s, z_push_n, okS_0, okS_I, okS_R, okS_A, List.getElem?_cons_zero, List.getElem?_cons_succ, List.length_cons, List.length_nil, List.set_cons_zero, List.set_cons_succ, true_and, and_true, z_tI, z_tB, pk_mul, nI_add, cI_cl, cI_ix, nar_0, nar_1, nar_b, Nat.reduceAdd, Nat.reduceLT, Nat.reduceMul, cI_lt, cI_eq, ↓reduceIte, if_true, if_false, Nat.lt_irrefl, eq_self, Nat.reduceEqDiff, or_true, true_or, or_false, false_or, not_false_eq_true, not_true_eq_false, ce_5, zb_t, zb_f, hd0, ↓d1, ← eC, no, ↓d2, ← eR, ↓mk, o0, o1, o2, o3, o4, ↓a6, rr, ↓b6, ↓c6, ↓e6, ↓g6, ↓d3']
  exact fin
end
