/-! the reference: empty cells by place, forced, sizes -/
section
variable {g : z_G} {d : Nat} {f : Nat → Option z_C} {h : z_H} {q : Option Nat × Nat × Nat} {P : z_Res → Prop} {m : Nat} {I : Nat → Int32} {A : Nat → Nat → Int32} {S : GS}
/-- what is told of an empty cell -/
def ev (w : Nat) (i n : Nat) : Int32 := if w = 0 then nI (i / 5) else if w = 1 then nI (i - i / 5 * 5) else nI n
theorem m_emp1 (hM : MH I A S) (hg : GI S) (hd : 2 < d) {X N : Nat} (hX2 : X < 2147483648) (hN : N < 10) {w : Nat} (hw : w < 3) {y : Int32} {E : Nat → Prop} (hO : ∀ n u v, n ≤ X → z_T g d 163 152 [.ref m, .int y, .int (nI w), .int (nI X - nI n), .int (nI N), .int (nI 25), u, v] [] (mw f m I A, q) P = E n) : ∀ (k i n : Nat) (u v : Value), i + k = 25 → n ≤ X → z_T g d 163 50 [.ref m, .int y, .int (nI w), .int (nI X - nI n), .int (nI N), .int (nI i), u, v] [] (mw f m I A, q) P = oe (kf (S.pe N) (nI X) i k n) (fun i => P (.inr (some (.int (ev w i N))), (mw f m I A, q))) (E (n + ct (S.pe N) i k))
  | 0, i, n, u, v, h, ht => by
    have : i = 25 := by omega
    subst this
    rw [ze_163_50]
    simp (disch := omega) only [ze_163_0, ze_163_1, ze_163_2, ze_163_5, ze_163_6, ze_163_7, ze_163_8, ze_163_9, ze_163_12, ze_163_15, ze_163_16, ze_163_19, ze_163_20, ze_163_21, ze_163_24, ze_163_27, ze_163_28, ze_163_29, ze_163_30, ze_163_31, ze_163_32, ze_163_34, ze_163_36, ze_163_37, ze_163_40, ze_163_43, ze_163_44, ze_163_47, ze_163_48, ze_163_52, ze_163_54, ze_163_57, ze_163_59, ze_163_60, ze_163_61, ze_163_63, ze_163_65, ze_163_66, ze_163_67, ze_163_69, ze_163_71, ze_163_72, ze_163_75, ze_163_78, ze_163_80, ze_163_81, ze_163_84, ze_163_87, ze_163_88, ze_163_91, ze_163_93, ze_163_94, ze_163_95, ze_163_98, ze_163_99, ze_163_101, ze_163_103, ze_163_106, ze_163_109, ze_163_111, ze_163_114, ze_163_117, ze_163_118, ze_163_121, ze_163_122, ze_163_125, ze_163_127, ze_163_130, ze_163_131, ze_163_132, ze_163_135, ze_163_137, ze_163_140, ze_163_142, ze_163_143, ze_163_146, ze_163_149, ze_163_155, ze_163_158, ze_163_159, z_k_r, z_push_s, z_push_n, okS_0, okS_I, okS_R, okS_A, List.getElem?_cons_zero, List.getElem?_cons_succ, List.length_cons, List.length_nil, List.set_cons_zero, List.set_cons_succ, true_and, and_true, z_tI, z_tB, pk_mul, nI_add, cI_cl, cI_ix, nar_0, nar_1, nar_b, Nat.reduceAdd, Nat.reduceLT, Nat.reduceMul, mg_0, mg_1, mg_2, mg_3, mg_4, mg_5, mg_6, mg_7, mg_8, mg_9, mg_10, mg_11, mg_12, mg_13, mg_14, mg_15, mg_16, mg_17, mg_18, mg_19, mg_20, mg_21, mg_22, mg_23, mg_24, mg_25, mg_26, mg_27, mg_28, mp_0, mp_1, mp_2, mp_3, mp_4, mp_5, mp_6, mp_13, mp_14, mp_15, mp_16, mp_17, mp_18, mp_19, mp_20, mp_21, mp_23, mL_1, mL_2, mL_3, mL_4, mL_5, mL_6, mL_7, mL_8, mL_9, mL_10, mL_11, mL_12, mS_1, mS_2, mS_3, mS_4, mS_5, mS_6, mS_7, mS_8, mS_9, mS_10, mS_11, mS_12, m_gO, uA_s, uA_n, cI_lt, cI_eq, ↓reduceIte, if_true, if_false, Nat.lt_irrefl, eq_self, Nat.reduceEqDiff, or_true, true_or, or_false, false_or, not_false_eq_true, not_true_eq_false, ce_5, zb_t, zb_f]
    rw [hO _ _ _ ht]
    rfl
  | k + 1, i, n, u, v, h, ht => by
    have hi : i < 25 := by omega
    have hC := hg.C5
    have hRC := hg.RC
    have hd0 : 0 < d := by omega
    have h1 := hM.1
    have h2 := hM.2.1
    have h3 := hM.2.2.1
    have hp := pop_lt (S.cd (i / 5) (i - i / 5 * 5))
    have e5 := ce_em (hg.c5 i)
    have pa : S.pe N i = (decide (i / 5 < S.R) && decide (i - i / 5 * 5 < S.C) && decide (S.c i = 5) && decide (pop (S.cd (i / 5) (i - i / 5 * 5)) = N)) := by
      unfold GS.pe
      rw [show i % 5 = i - i / 5 * 5 by omega]
    rw [ze_163_50, ct_s]
    unfold kf
    simp (disch := omega) only [ze_163_0, ze_163_1, ze_163_2, ze_163_5, ze_163_6, ze_163_7, ze_163_8, ze_163_9, ze_163_12, ze_163_15, ze_163_16, ze_163_19, ze_163_20, ze_163_21, ze_163_24, ze_163_27, ze_163_28, ze_163_29, ze_163_30, ze_163_31, ze_163_32, ze_163_34, ze_163_36, ze_163_37, ze_163_40, ze_163_43, ze_163_44, ze_163_47, ze_163_48, ze_163_52, ze_163_54, ze_163_57, ze_163_59, ze_163_60, ze_163_61, ze_163_63, ze_163_65, ze_163_66, ze_163_67, ze_163_69, ze_163_71, ze_163_72, ze_163_75, ze_163_78, ze_163_80, ze_163_81, ze_163_84, ze_163_87, ze_163_88, ze_163_91, ze_163_93, ze_163_94, ze_163_95, ze_163_98, ze_163_99, ze_163_101, ze_163_103, ze_163_106, ze_163_109, ze_163_111, ze_163_114, ze_163_117, ze_163_118, ze_163_121, ze_163_122, ze_163_125, ze_163_127, ze_163_130, ze_163_131, ze_163_132, ze_163_135, ze_163_137, ze_163_140, ze_163_142, ze_163_143, ze_163_146, ze_163_149, ze_163_155, ze_163_158, ze_163_159, z_k_r, z_push_s, z_push_n, okS_0, okS_I, okS_R, okS_A, List.getElem?_cons_zero, List.getElem?_cons_succ, List.length_cons, List.length_nil, List.set_cons_zero, List.set_cons_succ, true_and, and_true, z_tI, z_tB, pk_mul, nI_add, cI_cl, cI_ix, nar_0, nar_1, nar_b, Nat.reduceAdd, Nat.reduceLT, Nat.reduceMul, mg_0, mg_1, mg_2, mg_3, mg_4, mg_5, mg_6, mg_7, mg_8, mg_9, mg_10, mg_11, mg_12, mg_13, mg_14, mg_15, mg_16, mg_17, mg_18, mg_19, mg_20, mg_21, mg_22, mg_23, mg_24, mg_25, mg_26, mg_27, mg_28, mp_0, mp_1, mp_2, mp_3, mp_4, mp_5, mp_6, mp_13, mp_14, mp_15, mp_16, mp_17, mp_18, mp_19, mp_20, mp_21, mp_23, mL_1, mL_2, mL_3, mL_4, mL_5, mL_6, mL_7, mL_8, mL_9, mL_10, mL_11, mL_12, mS_1, mS_2, mS_3, mS_4, mS_5, mS_6, mS_7, mS_8, mS_9, mS_10, mS_11, mS_12, m_gO, uA_s, uA_n, cI_lt, cI_eq, ↓reduceIte, if_true, if_false, Nat.lt_irrefl, eq_self, Nat.reduceEqDiff, or_true, true_or, or_false, false_or, not_false_eq_true, not_true_eq_false, ce_5, zb_t, zb_f, hi, cI_div, (cI_sub (by omega) : nI i - nI (i / 5 * 5) = nI (i - i / 5 * 5)), h1, h2, h3, e5, pa, hd0, m_cand hM hg, m_many, sub_nI, sub_nI1]
    by_cases a1 : i / 5 < S.R
    · by_cases a2 : i - i / 5 * 5 < S.C
      · by_cases a3 : S.c i = 5
        · by_cases a4 : pop (S.cd (i / 5) (i - i / 5 * 5)) = N
          · simp only [a1, a2, a3, a4, if_true, if_false, decide_true, Bool.and_self, Bool.toNat_true, not_true_eq_false]
            by_cases e3 : X = n
            · simp only [e3, if_true, not_true_eq_false, if_false, oe_s, ev]
              have : w = 0 ∨ w = 1 ∨ w = 2 := by omega
              rcases this with rfl | rfl | rfl
              · simp (disch := omega) only [cI_lt, cI_eq, ↓reduceIte, if_true, if_false, Nat.lt_irrefl, eq_self, Nat.reduceEqDiff, or_true, true_or, or_false, false_or, not_false_eq_true, not_true_eq_false, ce_5, zb_t, zb_f]
              · simp (disch := omega) only [cI_lt, cI_eq, ↓reduceIte, if_true, if_false, Nat.lt_irrefl, eq_self, Nat.reduceEqDiff, or_true, true_or, or_false, false_or, not_false_eq_true, not_true_eq_false, ce_5, zb_t, zb_f, Nat.reduceEqDiff]
              · simp (disch := omega) only [cI_lt, cI_eq, ↓reduceIte, if_true, if_false, Nat.lt_irrefl, eq_self, Nat.reduceEqDiff, or_true, true_or, or_false, false_or, not_false_eq_true, not_true_eq_false, ce_5, zb_t, zb_f, Nat.reduceEqDiff]
            · simp only [e3, if_false, not_false_eq_true, if_true]
              rw [m_emp1 hM hg hd hX2 hN hw hO k (i + 1) (n + 1) _ _ (by omega) (by omega), Nat.add_assoc]
          · simp only [a1, a2, a3, a4, if_true, if_false, decide_true, decide_false, Bool.and_false, Bool.toNat_false, not_true_eq_false, not_false_eq_true, Bool.false_eq_true, Nat.zero_add]
            rw [m_emp1 hM hg hd hX2 hN hw hO k (i + 1) n _ _ (by omega) ht]
        · simp only [a1, a2, a3, if_true, if_false, decide_true, decide_false, Bool.and_false, Bool.false_and, Bool.toNat_false, not_true_eq_false, not_false_eq_true, Bool.false_eq_true, Nat.zero_add]
          rw [m_emp1 hM hg hd hX2 hN hw hO k (i + 1) n _ _ (by omega) ht]
      · simp only [a1, a2, if_true, if_false, decide_true, decide_false, Bool.and_false, Bool.false_and, Bool.toNat_false, not_true_eq_false, not_false_eq_true, Bool.false_eq_true, Nat.zero_add]
        rw [m_emp1 hM hg hd hX2 hN hw hO k (i + 1) n _ _ (by omega) ht]
    · simp only [a1, if_true, if_false, decide_true, decide_false, Bool.and_false, Bool.false_and, Bool.toNat_false, not_true_eq_false, not_false_eq_true, Bool.false_eq_true, Nat.zero_add]
      rw [m_emp1 hM hg hd hX2 hN hw hO k (i + 1) n _ _ (by omega) ht]
def oev (w : Nat) (o : Option (Nat × Nat)) : Int32 := match o with
  | some i => ev w i.1 i.2
  | none => -1
theorem m_emp2 (hM : MH I A S) (hg : GI S) (hd : 2 < d) {X : Nat} (hX2 : X < 2147483648) {w : Nat} (hw : w < 3) : ∀ (k N t : Nat) (u v z : Value), N + k = S.C + 1 → t ≤ X → z_T g d 163 34 [.ref m, .int (nI X), .int (nI w), .int (nI X - nI t), .int (nI N), z, u, v] [] (mw f m I A, q) P = P (.inr (some (.int (oev w (S.ef (nI X) N k t)))), (mw f m I A, q))
  | 0, N, t, u, v, z, h, ht => by
    have : N = S.C + 1 := by omega
    subst this
    have hC := hg.C5
    have h2 := hM.2.1
    have hn : S.C < S.C + 1 := by omega
    rw [ze_163_34]
    simp (disch := omega) only [ze_163_0, ze_163_1, ze_163_2, ze_163_5, ze_163_6, ze_163_7, ze_163_8, ze_163_9, ze_163_12, ze_163_15, ze_163_16, ze_163_19, ze_163_20, ze_163_21, ze_163_24, ze_163_27, ze_163_28, ze_163_29, ze_163_30, ze_163_31, ze_163_32, ze_163_36, ze_163_37, ze_163_40, ze_163_43, ze_163_44, ze_163_47, ze_163_48, ze_163_52, ze_163_54, ze_163_57, ze_163_59, ze_163_60, ze_163_61, ze_163_63, ze_163_65, ze_163_66, ze_163_67, ze_163_69, ze_163_71, ze_163_72, ze_163_75, ze_163_78, ze_163_80, ze_163_81, ze_163_84, ze_163_87, ze_163_88, ze_163_91, ze_163_93, ze_163_94, ze_163_95, ze_163_98, ze_163_99, ze_163_101, ze_163_103, ze_163_106, ze_163_109, ze_163_111, ze_163_114, ze_163_117, ze_163_118, ze_163_121, ze_163_122, ze_163_125, ze_163_127, ze_163_130, ze_163_131, ze_163_132, ze_163_135, ze_163_137, ze_163_140, ze_163_142, ze_163_143, ze_163_146, ze_163_149, ze_163_152, ze_163_155, ze_163_158, ze_163_159, z_k_r, z_push_s, z_push_n, okS_0, okS_I, okS_R, okS_A, List.getElem?_cons_zero, List.getElem?_cons_succ, List.length_cons, List.length_nil, List.set_cons_zero, List.set_cons_succ, true_and, and_true, z_tI, z_tB, pk_mul, nI_add, cI_cl, cI_ix, nar_0, nar_1, nar_b, Nat.reduceAdd, Nat.reduceLT, Nat.reduceMul, mg_0, mg_1, mg_2, mg_3, mg_4, mg_5, mg_6, mg_7, mg_8, mg_9, mg_10, mg_11, mg_12, mg_13, mg_14, mg_15, mg_16, mg_17, mg_18, mg_19, mg_20, mg_21, mg_22, mg_23, mg_24, mg_25, mg_26, mg_27, mg_28, mp_0, mp_1, mp_2, mp_3, mp_4, mp_5, mp_6, mp_13, mp_14, mp_15, mp_16, mp_17, mp_18, mp_19, mp_20, mp_21, mp_23, mL_1, mL_2, mL_3, mL_4, mL_5, mL_6, mL_7, mL_8, mL_9, mL_10, mL_11, mL_12, mS_1, mS_2, mS_3, mS_4, mS_5, mS_6, mS_7, mS_8, mS_9, mS_10, mS_11, mS_12, m_gO, uA_s, uA_n, cI_lt, cI_eq, ↓reduceIte, if_true, if_false, Nat.lt_irrefl, eq_self, Nat.reduceEqDiff, or_true, true_or, or_false, false_or, not_false_eq_true, not_true_eq_false, ce_5, zb_t, zb_f, h2, hn]
    rfl
  | k + 1, N, t, u, v, z, h, ht => by
    have hC := hg.C5
    have h2 := hM.2.1
    have hn : ¬ S.C < N := by omega
    rw [ze_163_34]
    simp (disch := omega) only [ze_163_0, ze_163_1, ze_163_2, ze_163_5, ze_163_6, ze_163_7, ze_163_8, ze_163_9, ze_163_12, ze_163_15, ze_163_16, ze_163_19, ze_163_20, ze_163_21, ze_163_24, ze_163_27, ze_163_28, ze_163_29, ze_163_30, ze_163_31, ze_163_32, ze_163_36, ze_163_37, ze_163_40, ze_163_43, ze_163_44, ze_163_47, ze_163_48, ze_163_52, ze_163_54, ze_163_57, ze_163_59, ze_163_60, ze_163_61, ze_163_63, ze_163_65, ze_163_66, ze_163_67, ze_163_69, ze_163_71, ze_163_72, ze_163_75, ze_163_78, ze_163_80, ze_163_81, ze_163_84, ze_163_87, ze_163_88, ze_163_91, ze_163_93, ze_163_94, ze_163_95, ze_163_98, ze_163_99, ze_163_101, ze_163_103, ze_163_106, ze_163_109, ze_163_111, ze_163_114, ze_163_117, ze_163_118, ze_163_121, ze_163_122, ze_163_125, ze_163_127, ze_163_130, ze_163_131, ze_163_132, ze_163_135, ze_163_137, ze_163_140, ze_163_142, ze_163_143, ze_163_146, ze_163_149, ze_163_152, ze_163_155, ze_163_158, ze_163_159, z_k_r, z_push_s, z_push_n, okS_0, okS_I, okS_R, okS_A, List.getElem?_cons_zero, List.getElem?_cons_succ, List.length_cons, List.length_nil, List.set_cons_zero, List.set_cons_succ, true_and, and_true, z_tI, z_tB, pk_mul, nI_add, cI_cl, cI_ix, nar_0, nar_1, nar_b, Nat.reduceAdd, Nat.reduceLT, Nat.reduceMul, mg_0, mg_1, mg_2, mg_3, mg_4, mg_5, mg_6, mg_7, mg_8, mg_9, mg_10, mg_11, mg_12, mg_13, mg_14, mg_15, mg_16, mg_17, mg_18, mg_19, mg_20, mg_21, mg_22, mg_23, mg_24, mg_25, mg_26, mg_27, mg_28, mp_0, mp_1, mp_2, mp_3, mp_4, mp_5, mp_6, mp_13, mp_14, mp_15, mp_16, mp_17, mp_18, mp_19, mp_20, mp_21, mp_23, mL_1, mL_2, mL_3, mL_4, mL_5, mL_6, mL_7, mL_8, mL_9, mL_10, mL_11, mL_12, mS_1, mS_2, mS_3, mS_4, mS_5, mS_6, mS_7, mS_8, mS_9, mS_10, mS_11, mS_12, m_gO, uA_s, uA_n, cI_lt, cI_eq, ↓reduceIte, if_true, if_false, Nat.lt_irrefl, eq_self, Nat.reduceEqDiff, or_true, true_or, or_false, false_or, not_false_eq_true, not_true_eq_false, ce_5, zb_t, zb_f, h2, hn, Nat.not_lt_zero]
    rw [m_emp1 hM hg hd hX2 (by omega) hw (E := fun n => P (.inr (some (.int (oev w (S.ef (nI X) (N + 1) k n)))), (mw f m I A, q))) _ 25 0 t _ _ (by omega) ht]
    · conv => rhs; unfold GS.ef
      cases e : kf (S.pe N) (nI X) 0 25 t with
      | some i => rfl
      | none => rfl
    · intro n u v hn
      simp (disch := omega) only [ze_163_0, ze_163_1, ze_163_2, ze_163_5, ze_163_6, ze_163_7, ze_163_8, ze_163_9, ze_163_12, ze_163_15, ze_163_16, ze_163_19, ze_163_20, ze_163_21, ze_163_24, ze_163_27, ze_163_28, ze_163_29, ze_163_30, ze_163_31, ze_163_32, ze_163_36, ze_163_37, ze_163_40, ze_163_43, ze_163_44, ze_163_47, ze_163_48, ze_163_52, ze_163_54, ze_163_57, ze_163_59, ze_163_60, ze_163_61, ze_163_63, ze_163_65, ze_163_66, ze_163_67, ze_163_69, ze_163_71, ze_163_72, ze_163_75, ze_163_78, ze_163_80, ze_163_81, ze_163_84, ze_163_87, ze_163_88, ze_163_91, ze_163_93, ze_163_94, ze_163_95, ze_163_98, ze_163_99, ze_163_101, ze_163_103, ze_163_106, ze_163_109, ze_163_111, ze_163_114, ze_163_117, ze_163_118, ze_163_121, ze_163_122, ze_163_125, ze_163_127, ze_163_130, ze_163_131, ze_163_132, ze_163_135, ze_163_137, ze_163_140, ze_163_142, ze_163_143, ze_163_146, ze_163_149, ze_163_152, ze_163_155, ze_163_158, ze_163_159, z_k_r, z_push_s, z_push_n, okS_0, okS_I, okS_R, okS_A, List.getElem?_cons_zero, List.getElem?_cons_succ, List.length_cons, List.length_nil, List.set_cons_zero, List.set_cons_succ, true_and, and_true, z_tI, z_tB, pk_mul, nI_add, cI_cl, cI_ix, nar_0, nar_1, nar_b, Nat.reduceAdd, Nat.reduceLT, Nat.reduceMul]
      rw [m_emp2 hM hg hd hX2 hw k (N + 1) n _ _ _ (by omega) hn]
theorem wi_ok {w : Int32} {l : Nat} (hl : l < 1000) : wi w (nI 0) (nI l) = okN w (l + 1) := by
  have := wi_okN (x := w) (n := l + 1) (by omega) (by omega)
  rw [cI_sub (by omega), Nat.add_sub_cancel] at this
  exact this
theorem m_emptyCell (hM : MH I A S) (hg : GI S) (hd : 2 < d) {X : Nat} (hX2 : X < 2147483648) {w : Nat} (hw : w < 3) : z_Ca g d 163 [.ref m, .int (nI X), .int (nI w)] (mw f m I A, q) P = P (.inr (some (.int (oev w (S.ef (nI X) 0 (S.C + 1) 0)))), (mw f m (upd I 0 (nI 0)) A, q)) := by
  have hd0 : 0 < d := by omega
  have th := fun p I (h : I 0 = nI 0) P => m_throws (g := g) (d := d - 1) (f := f) (q := q) (P := P) (m := m) (I := I) (A := A) p (e := 1) (by omega) h
  have z := th false (upd I 0 (nI 0)) (upd_at _ _ _)
  rw [zb_f] at z
  have o1 : okN (nI w) (2 + 1) = true := okN_nI (by omega) hw
  rw [zn_163]
  simp (disch := omega) only [ze_163_0, ze_163_1, ze_163_2, ze_163_5, ze_163_6, ze_163_7, ze_163_8, ze_163_9, ze_163_12, ze_163_15, ze_163_16, ze_163_19, ze_163_20, ze_163_21, ze_163_24, ze_163_27, ze_163_28, ze_163_29, ze_163_30, ze_163_31, ze_163_32, ze_163_36, ze_163_37, ze_163_40, ze_163_43, ze_163_44, ze_163_47, ze_163_48, ze_163_50, ze_163_52, ze_163_54, ze_163_57, ze_163_59, ze_163_60, ze_163_61, ze_163_63, ze_163_65, ze_163_66, ze_163_67, ze_163_69, ze_163_71, ze_163_72, ze_163_75, ze_163_78, ze_163_80, ze_163_81, ze_163_84, ze_163_87, ze_163_88, ze_163_91, ze_163_93, ze_163_94, ze_163_95, ze_163_98, ze_163_99, ze_163_101, ze_163_103, ze_163_106, ze_163_109, ze_163_111, ze_163_114, ze_163_117, ze_163_118, ze_163_121, ze_163_122, ze_163_125, ze_163_127, ze_163_130, ze_163_131, ze_163_132, ze_163_135, ze_163_137, ze_163_140, ze_163_142, ze_163_143, ze_163_146, ze_163_149, ze_163_152, ze_163_155, ze_163_158, ze_163_159, z_k_r, z_push_s, z_push_n, okS_0, okS_I, okS_R, okS_A, List.getElem?_cons_zero, List.getElem?_cons_succ, List.length_cons, List.length_nil, List.set_cons_zero, List.set_cons_succ, true_and, and_true, z_tI, z_tB, pk_mul, nI_add, cI_cl, cI_ix, nar_0, nar_1, nar_b, Nat.reduceAdd, Nat.reduceLT, Nat.reduceMul, mg_0, mg_1, mg_2, mg_3, mg_4, mg_5, mg_6, mg_7, mg_8, mg_9, mg_10, mg_11, mg_12, mg_13, mg_14, mg_15, mg_16, mg_17, mg_18, mg_19, mg_20, mg_21, mg_22, mg_23, mg_24, mg_25, mg_26, mg_27, mg_28, mp_0, mp_1, mp_2, mp_3, mp_4, mp_5, mp_6, mp_13, mp_14, mp_15, mp_16, mp_17, mp_18, mp_19, mp_20, mp_21, mp_23, mL_1, mL_2, mL_3, mL_4, mL_5, mL_6, mL_7, mL_8, mL_9, mL_10, mL_11, mL_12, mS_1, mS_2, mS_3, mS_4, mS_5, mS_6, mS_7, mS_8, mS_9, mS_10, mS_11, mS_12, m_gO, uA_s, uA_n, cI_lt, cI_eq, ↓reduceIte, if_true, if_false, Nat.lt_irrefl, eq_self, Nat.reduceEqDiff, or_true, true_or, or_false, false_or, not_false_eq_true, not_true_eq_false, ce_5, zb_t, zb_f, m_within, wi_ok, hd0, o1, zb_0, Bool.true_eq_false, z, Bool.false_eq_true, upd_upd]
  have := m_emp2 (g := g) (f := f) (q := q) (P := P) (m := m) (MH_upd (nI 0) (k := 0) (by omega) hM) hg hd hX2 hw (S.C + 1) 0 0 z_un z_un z_un (by omega) (by omega)
  rw [sub_nI0] at this
  exact this
theorem m_emptyNeg (hM : MH I A S) (hg : GI S) (hd : 2 < d) {y : Int32} (hy : y < nI 0) {w : Nat} (hw : w < 3) : z_Ca g d 163 [.ref m, .int y, .int (nI w)] (mw f m I A, q) P = P (.inr (some (.int (-1))), (mw f m (upd I 0 (nI 0)) A, q)) := by
  have hd0 : 0 < d := by omega
  have hC := hg.C5
  have h2 := hM.2.1
  have th := fun p I (h : I 0 = nI 0) P => m_throws (g := g) (d := d - 1) (f := f) (q := q) (P := P) (m := m) (I := I) (A := A) p (e := 1) (by omega) h
  have z := th false (upd I 0 (nI 0)) (upd_at _ _ _)
  rw [zb_f] at z
  have o1 : okN (nI w) (2 + 1) = true := okN_nI (by omega) hw
  rw [zn_163]
  simp (disch := omega) only [ze_163_0, ze_163_1, ze_163_2, ze_163_5, ze_163_6, ze_163_7, ze_163_8, ze_163_9, ze_163_12, ze_163_15, ze_163_16, ze_163_19, ze_163_20, ze_163_21, ze_163_24, ze_163_27, ze_163_28, ze_163_29, ze_163_30, ze_163_31, ze_163_32, ze_163_34, ze_163_36, ze_163_37, ze_163_40, ze_163_43, ze_163_44, ze_163_47, ze_163_48, ze_163_52, ze_163_54, ze_163_57, ze_163_59, ze_163_60, ze_163_61, ze_163_63, ze_163_65, ze_163_66, ze_163_67, ze_163_69, ze_163_71, ze_163_72, ze_163_75, ze_163_78, ze_163_80, ze_163_81, ze_163_84, ze_163_87, ze_163_88, ze_163_91, ze_163_93, ze_163_94, ze_163_95, ze_163_98, ze_163_99, ze_163_101, ze_163_103, ze_163_106, ze_163_109, ze_163_111, ze_163_114, ze_163_117, ze_163_118, ze_163_121, ze_163_122, ze_163_125, ze_163_127, ze_163_130, ze_163_131, ze_163_132, ze_163_135, ze_163_137, ze_163_140, ze_163_142, ze_163_143, ze_163_146, ze_163_149, ze_163_152, ze_163_155, ze_163_158, ze_163_159, z_k_r, z_push_s, z_push_n, okS_0, okS_I, okS_R, okS_A, List.getElem?_cons_zero, List.getElem?_cons_succ, List.length_cons, List.length_nil, List.set_cons_zero, List.set_cons_succ, true_and, and_true, z_tI, z_tB, pk_mul, nI_add, cI_cl, cI_ix, nar_0, nar_1, nar_b, Nat.reduceAdd, Nat.reduceLT, Nat.reduceMul, mg_0, mg_1, mg_2, mg_3, mg_4, mg_5, mg_6, mg_7, mg_8, mg_9, mg_10, mg_11, mg_12, mg_13, mg_14, mg_15, mg_16, mg_17, mg_18, mg_19, mg_20, mg_21, mg_22, mg_23, mg_24, mg_25, mg_26, mg_27, mg_28, mp_0, mp_1, mp_2, mp_3, mp_4, mp_5, mp_6, mp_13, mp_14, mp_15, mp_16, mp_17, mp_18, mp_19, mp_20, mp_21, mp_23, mL_1, mL_2, mL_3, mL_4, mL_5, mL_6, mL_7, mL_8, mL_9, mL_10, mL_11, mL_12, mS_1, mS_2, mS_3, mS_4, mS_5, mS_6, mS_7, mS_8, mS_9, mS_10, mS_11, mS_12, m_gO, uA_s, uA_n, cI_lt, cI_eq, ↓reduceIte, if_true, if_false, Nat.lt_irrefl, eq_self, Nat.reduceEqDiff, or_true, true_or, or_false, false_or, not_false_eq_true, not_true_eq_false, ce_5, zb_t, zb_f, m_within, wi_ok, hd0, o1, zb_0, Bool.true_eq_false, z, Bool.false_eq_true, upd_upd, upd_ne, ne_eq, h2, Nat.not_lt_zero, hy]
theorem m_forced (hM : MH I A S) (hg : GI S) (hd : 5 < d) {X : Nat} (hX2 : X ≤ 25) {w : Nat} (hw : w < 4) : z_Ca g d 162 [.ref m, .int (nI X), .int (nI w)] (mw f m I A, q) P = P (.inr (some (.int (fV S (nI X) w))), (mw f m (upd I 0 (nI 0)) A, q)) := by
  have hd0 : 0 < d := by omega
  have th := fun p I (h : I 0 = nI 0) P => m_throws (g := g) (d := d - 1) (f := f) (q := q) (P := P) (m := m) (I := I) (A := A) p (e := 1) (by omega) h
  have z := th false (upd I 0 (nI 0)) (upd_at _ _ _)
  rw [zb_f] at z
  have o1 : okN (nI w) (3 + 1) = true := okN_nI (by omega) hw
  have o2 : okN (nI X) (25 + 1) = true := okN_nI (by omega) (by omega)
  have hM' := MH_upd (nI 0) (k := 0) (by omega) hM
  rw [zn_162]
  simp (disch := omega) only [ze_162_0, ze_162_1, ze_162_2, ze_162_5, ze_162_6, ze_162_7, ze_162_8, ze_162_9, ze_162_12, ze_162_15, ze_162_16, ze_162_19, ze_162_20, ze_162_21, ze_162_24, ze_162_27, ze_162_28, ze_162_29, ze_162_30, ze_162_31, ze_162_33, ze_162_36, ze_162_39, ze_162_40, ze_162_41, ze_162_44, ze_162_47, ze_162_48, ze_162_49, ze_162_50, ze_162_51, ze_162_54, ze_162_55, ze_162_56, ze_162_59, ze_162_60, ze_162_61, ze_162_64, ze_162_65, ze_162_68, ze_162_69, ze_162_72, ze_162_73, ze_162_74, ze_162_75, ze_162_78, ze_162_79, ze_162_80, ze_162_81, ze_162_82, ze_162_83, ze_162_84, ze_162_85, ze_162_86, ze_162_87, ze_162_88, ze_162_89, ze_162_92, ze_162_94, ze_162_95, ze_162_96, ze_162_99, ze_162_101, ze_162_103, ze_162_104, ze_162_107, ze_162_109, ze_162_111, ze_162_112, z_k_r, z_push_s, z_push_n, okS_0, okS_I, okS_R, okS_A, List.getElem?_cons_zero, List.getElem?_cons_succ, List.length_cons, List.length_nil, List.set_cons_zero, List.set_cons_succ, true_and, and_true, z_tI, z_tB, pk_mul, nI_add, cI_cl, cI_ix, nar_0, nar_1, nar_b, Nat.reduceAdd, Nat.reduceLT, Nat.reduceMul, mg_0, mg_1, mg_2, mg_3, mg_4, mg_5, mg_6, mg_7, mg_8, mg_9, mg_10, mg_11, mg_12, mg_13, mg_14, mg_15, mg_16, mg_17, mg_18, mg_19, mg_20, mg_21, mg_22, mg_23, mg_24, mg_25, mg_26, mg_27, mg_28, mp_0, mp_1, mp_2, mp_3, mp_4, mp_5, mp_6, mp_13, mp_14, mp_15, mp_16, mp_17, mp_18, mp_19, mp_20, mp_21, mp_23, mL_1, mL_2, mL_3, mL_4, mL_5, mL_6, mL_7, mL_8, mL_9, mL_10, mL_11, mL_12, mS_1, mS_2, mS_3, mS_4, mS_5, mS_6, mS_7, mS_8, mS_9, mS_10, mS_11, mS_12, m_gO, uA_s, uA_n, cI_lt, cI_eq, ↓reduceIte, if_true, if_false, Nat.lt_irrefl, eq_self, Nat.reduceEqDiff, or_true, true_or, or_false, false_or, not_false_eq_true, not_true_eq_false, ce_5, zb_t, zb_f, m_within, wi_ok, hd0, o1, o2, zb_0, Bool.true_eq_false, z, Bool.false_eq_true, upd_upd, m_place hM' hg]
  unfold fV
  cases e : kf S.pf (nI X) 0 25 0 with
  | none =>
    rw [show on none = -1 from rfl]
    simp (disch := omega) only [cI_lt, cI_eq, ↓reduceIte, if_true, if_false, Nat.lt_irrefl, eq_self, Nat.reduceEqDiff, or_true, true_or, or_false, false_or, not_false_eq_true, not_true_eq_false, ce_5, zb_t, zb_f]
  | some i =>
    obtain ⟨k1, k2, k3⟩ := kf_p _ _ _ _ e
    unfold GS.pf at k1
    simp only [Bool.and_eq_true, decide_eq_true_eq] at k1
    obtain ⟨⟨k4, k5⟩, k6⟩ := k1
    rw [show i % 5 = i - i / 5 * 5 by omega] at k5 k6
    have h4 := fs_lt k6
    have h5 := rs_lt (S := S) (i / 5) (i - i / 5 * 5)
    have hR := hg.RC
    have hC := hg.C5
    rw [show on (some i) = nI i from rfl]
    have fe : S.ft (i / 5) (i - i / 5 * 5) = 8 * S.fs (i / 5) (i - i / 5 * 5) + S.rs (i / 5) (i - i / 5 * 5) := if_neg k6
    have : w = 0 ∨ w = 1 ∨ w = 2 ∨ w = 3 := by omega
    rcases this with rfl | rfl | rfl | rfl
    · simp (disch := omega) only [z_k_r, z_push_s, z_push_n, okS_0, okS_I, okS_R, okS_A, List.getElem?_cons_zero, List.getElem?_cons_succ, List.length_cons, List.length_nil, List.set_cons_zero, List.set_cons_succ, true_and, and_true, z_tI, z_tB, pk_mul, nI_add, cI_cl, cI_ix, nar_0, nar_1, nar_b, Nat.reduceAdd, Nat.reduceLT, Nat.reduceMul, cI_lt, cI_eq, ↓reduceIte, if_true, if_false, Nat.lt_irrefl, eq_self, Nat.reduceEqDiff, or_true, true_or, or_false, false_or, not_false_eq_true, not_true_eq_false, ce_5, zb_t, zb_f, on_m1, cI_div, cI_sub, Nat.reduceEqDiff, Nat.reduceLT]
    · simp (disch := omega) only [z_k_r, z_push_s, z_push_n, okS_0, okS_I, okS_R, okS_A, List.getElem?_cons_zero, List.getElem?_cons_succ, List.length_cons, List.length_nil, List.set_cons_zero, List.set_cons_succ, true_and, and_true, z_tI, z_tB, pk_mul, nI_add, cI_cl, cI_ix, nar_0, nar_1, nar_b, Nat.reduceAdd, Nat.reduceLT, Nat.reduceMul, cI_lt, cI_eq, ↓reduceIte, if_true, if_false, Nat.lt_irrefl, eq_self, Nat.reduceEqDiff, or_true, true_or, or_false, false_or, not_false_eq_true, not_true_eq_false, ce_5, zb_t, zb_f, on_m1, cI_div, cI_sub, Nat.reduceEqDiff, Nat.reduceLT]
    · simp (disch := omega) only [z_k_r, z_push_s, z_push_n, okS_0, okS_I, okS_R, okS_A, List.getElem?_cons_zero, List.getElem?_cons_succ, List.length_cons, List.length_nil, List.set_cons_zero, List.set_cons_succ, true_and, and_true, z_tI, z_tB, pk_mul, nI_add, cI_cl, cI_ix, nar_0, nar_1, nar_b, Nat.reduceAdd, Nat.reduceLT, Nat.reduceMul, cI_lt, cI_eq, ↓reduceIte, if_true, if_false, Nat.lt_irrefl, eq_self, Nat.reduceEqDiff, or_true, true_or, or_false, false_or, not_false_eq_true, not_true_eq_false, ce_5, zb_t, zb_f, ze_162_0, ze_162_1, ze_162_2, ze_162_5, ze_162_6, ze_162_7, ze_162_8, ze_162_9, ze_162_12, ze_162_15, ze_162_16, ze_162_19, ze_162_20, ze_162_21, ze_162_24, ze_162_27, ze_162_28, ze_162_29, ze_162_30, ze_162_31, ze_162_33, ze_162_36, ze_162_39, ze_162_40, ze_162_41, ze_162_44, ze_162_47, ze_162_48, ze_162_49, ze_162_50, ze_162_51, ze_162_54, ze_162_55, ze_162_56, ze_162_59, ze_162_60, ze_162_61, ze_162_64, ze_162_65, ze_162_68, ze_162_69, ze_162_72, ze_162_73, ze_162_74, ze_162_75, ze_162_78, ze_162_79, ze_162_80, ze_162_81, ze_162_82, ze_162_83, ze_162_84, ze_162_85, ze_162_86, ze_162_87, ze_162_88, ze_162_89, ze_162_92, ze_162_94, ze_162_95, ze_162_96, ze_162_99, ze_162_101, ze_162_103, ze_162_104, ze_162_107, ze_162_109, ze_162_111, ze_162_112, on_m1, cI_div, cI_sub, Nat.reduceEqDiff, Nat.reduceLT, m_forcedTo hM' hg, hd0, fe]
      rw [show (8 * S.fs (i / 5) (i - i / 5 * 5) + S.rs (i / 5) (i - i / 5 * 5)) / 8 = S.fs (i / 5) (i - i / 5 * 5) by omega]
    · simp (disch := omega) only [z_k_r, z_push_s, z_push_n, okS_0, okS_I, okS_R, okS_A, List.getElem?_cons_zero, List.getElem?_cons_succ, List.length_cons, List.length_nil, List.set_cons_zero, List.set_cons_succ, true_and, and_true, z_tI, z_tB, pk_mul, nI_add, cI_cl, cI_ix, nar_0, nar_1, nar_b, Nat.reduceAdd, Nat.reduceLT, Nat.reduceMul, cI_lt, cI_eq, ↓reduceIte, if_true, if_false, Nat.lt_irrefl, eq_self, Nat.reduceEqDiff, or_true, true_or, or_false, false_or, not_false_eq_true, not_true_eq_false, ce_5, zb_t, zb_f, ze_162_0, ze_162_1, ze_162_2, ze_162_5, ze_162_6, ze_162_7, ze_162_8, ze_162_9, ze_162_12, ze_162_15, ze_162_16, ze_162_19, ze_162_20, ze_162_21, ze_162_24, ze_162_27, ze_162_28, ze_162_29, ze_162_30, ze_162_31, ze_162_33, ze_162_36, ze_162_39, ze_162_40, ze_162_41, ze_162_44, ze_162_47, ze_162_48, ze_162_49, ze_162_50, ze_162_51, ze_162_54, ze_162_55, ze_162_56, ze_162_59, ze_162_60, ze_162_61, ze_162_64, ze_162_65, ze_162_68, ze_162_69, ze_162_72, ze_162_73, ze_162_74, ze_162_75, ze_162_78, ze_162_79, ze_162_80, ze_162_81, ze_162_82, ze_162_83, ze_162_84, ze_162_85, ze_162_86, ze_162_87, ze_162_88, ze_162_89, ze_162_92, ze_162_94, ze_162_95, ze_162_96, ze_162_99, ze_162_101, ze_162_103, ze_162_104, ze_162_107, ze_162_109, ze_162_111, ze_162_112, on_m1, cI_div, cI_sub, Nat.reduceEqDiff, Nat.reduceLT, m_forcedTo hM' hg, hd0, fe]
      rw [show 8 * S.fs (i / 5) (i - i / 5 * 5) + S.rs (i / 5) (i - i / 5 * 5) - (8 * S.fs (i / 5) (i - i / 5 * 5) + S.rs (i / 5) (i - i / 5 * 5)) / 8 * 8 = S.rs (i / 5) (i - i / 5 * 5) by omega]
end
