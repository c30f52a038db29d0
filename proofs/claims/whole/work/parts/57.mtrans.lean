/-! the reference: transversals -/
section
variable {g : z_G} {d : Nat} {f : Nat → Option z_C} {q : Option Nat × Nat × Nat} {P : z_Res → Prop} {m : Nat} {I : Nat → Int32} {A : Nat → Nat → Int32} {S : GS} {FR FC : Int32}
theorem m_acr1 (hM : MH I A S) (hg : GI S) (hd : 1 < d) {r : Nat} (hr : r < S.R) (bz us : Nat → Bool) {F : (Nat → Bool) → (Nat → Bool) → Nat}
    (ih : ∀ (bz us : Nat → Bool) (P : z_Res → Prop), z_Ca g (d - 1) 171 [.ref m, .int (nI (r + 1)), .int (sS bz), .int (sS us), .int FR, .int FC] (mw f m I A, q) P = P (.inr (some (.int (nI (F bz us)))), (mw f m I A, q))) :
    ∀ (k c n : Nat) (v : Value), c + k = S.C → z_T g d 171 16 [.ref m, .int (nI r), .int (sS bz), .int (sS us), .int FR, .int FC, .int (nI n), .int (nI c), v] [] (mw f m I A, q) P = P (.inr (some (.int (nI (n + sm (fun c => if (fxc FR FC r c && S.fr r c bz us) = true then F (ad bz c) (ad us (S.c (r * 5 + c))) else 0) c k)))), (mw f m I A, q))
  | 0, c, n, v, h => by
    have : c = S.C := by omega
    subst this
    have hC := hg.C5
    have h2 := hM.2.1
    rw [ze_171_16]
    simp (disch := omega) only [ze_171_0, ze_171_1, ze_171_2, ze_171_5, ze_171_8, ze_171_9, ze_171_10, ze_171_11, ze_171_13, ze_171_14, ze_171_18, ze_171_19, ze_171_22, ze_171_25, ze_171_26, ze_171_27, ze_171_29, ze_171_32, ze_171_34, ze_171_36, ze_171_37, ze_171_40, ze_171_41, ze_171_43, ze_171_44, ze_171_45, ze_171_46, ze_171_47, ze_171_50, ze_171_51, ze_171_53, ze_171_54, ze_171_55, ze_171_56, ze_171_57, ze_171_60, ze_171_61, ze_171_63, ze_171_66, ze_171_68, ze_171_70, ze_171_73, ze_171_76, ze_171_78, ze_171_79, ze_171_80, ze_171_81, ze_171_82, ze_171_83, ze_171_84, ze_171_86, ze_171_87, ze_171_88, ze_171_89, ze_171_90, ze_171_92, ze_171_93, ze_171_94, ze_171_96, ze_171_98, ze_171_101, ze_171_102, ze_171_104, ze_171_107, ze_171_110, ze_171_112, z_k_r, z_push_s, z_push_n, okS_0, okS_I, okS_R, okS_A, List.getElem?_cons_zero, List.getElem?_cons_succ, List.length_cons, List.length_nil, List.set_cons_zero, List.set_cons_succ, true_and, and_true, z_tI, z_tB, pk_mul, nI_add, cI_cl, cI_ix, nar_0, nar_1, nar_b, Nat.reduceAdd, Nat.reduceLT, Nat.reduceMul, mg_0, mg_1, mg_2, mg_3, mg_4, mg_5, mg_6, mg_7, mg_8, mg_9, mg_10, mg_11, mg_12, mg_13, mg_14, mg_15, mg_16, mg_17, mg_18, mg_19, mg_20, mg_21, mg_22, mg_23, mg_24, mg_25, mg_26, mg_27, mg_28, mp_0, mp_1, mp_2, mp_3, mp_4, mp_5, mp_6, mp_13, mp_14, mp_15, mp_16, mp_17, mp_18, mp_19, mp_20, mp_21, mp_23, mL_1, mL_2, mL_3, mL_4, mL_5, mL_6, mL_7, mL_8, mL_9, mL_10, mL_11, mL_12, mS_1, mS_2, mS_3, mS_4, mS_5, mS_6, mS_7, mS_8, mS_9, mS_10, mS_11, mS_12, m_gO, uA_s, uA_n, cI_lt, cI_eq, ↓reduceIte, if_true, if_false, Nat.lt_irrefl, eq_self, Nat.reduceEqDiff, or_true, true_or, or_false, false_or, not_false_eq_true, not_true_eq_false, ce_5, zb_t, zb_f, h2, sm_z, Nat.add_zero]
  | k + 1, c, n, v, h => by
    have hC := hg.C5
    have hRC := hg.RC
    have h2 := hM.2.1
    have hc : c < S.C := by omega
    have hd0 : 0 < d := by omega
    have e5 := ce_em (hg.c5 (r * 5 + c))
    have key : ∀ n v, z_T g d 171 16 [.ref m, .int (nI r), .int (sS bz), .int (sS us), .int FR, .int FC, .int (nI n), .int (nI (c + 1)), v] [] (mw f m I A, q) P = _ := fun n v => m_acr1 hM hg hd hr bz us ih k (c + 1) n v (by omega)
    rw [ze_171_16, sm_s]
    by_cases e : S.c (r * 5 + c) = 5
    · have f0 : S.fr r c bz us = false := by unfold GS.fr; rw [decide_eq_true e]; rfl
      simp (disch := omega) only [ze_171_0, ze_171_1, ze_171_2, ze_171_5, ze_171_8, ze_171_9, ze_171_10, ze_171_11, ze_171_13, ze_171_14, ze_171_18, ze_171_19, ze_171_22, ze_171_25, ze_171_26, ze_171_27, ze_171_29, ze_171_32, ze_171_34, ze_171_36, ze_171_37, ze_171_40, ze_171_41, ze_171_43, ze_171_44, ze_171_45, ze_171_46, ze_171_47, ze_171_50, ze_171_51, ze_171_53, ze_171_54, ze_171_55, ze_171_56, ze_171_57, ze_171_60, ze_171_61, ze_171_63, ze_171_66, ze_171_68, ze_171_70, ze_171_73, ze_171_76, ze_171_78, ze_171_79, ze_171_80, ze_171_81, ze_171_82, ze_171_83, ze_171_84, ze_171_86, ze_171_87, ze_171_88, ze_171_89, ze_171_90, ze_171_92, ze_171_93, ze_171_94, ze_171_96, ze_171_98, ze_171_101, ze_171_102, ze_171_104, ze_171_107, ze_171_110, ze_171_112, z_k_r, z_push_s, z_push_n, okS_0, okS_I, okS_R, okS_A, List.getElem?_cons_zero, List.getElem?_cons_succ, List.length_cons, List.length_nil, List.set_cons_zero, List.set_cons_succ, true_and, and_true, z_tI, z_tB, pk_mul, nI_add, cI_cl, cI_ix, nar_0, nar_1, nar_b, Nat.reduceAdd, Nat.reduceLT, Nat.reduceMul, mg_0, mg_1, mg_2, mg_3, mg_4, mg_5, mg_6, mg_7, mg_8, mg_9, mg_10, mg_11, mg_12, mg_13, mg_14, mg_15, mg_16, mg_17, mg_18, mg_19, mg_20, mg_21, mg_22, mg_23, mg_24, mg_25, mg_26, mg_27, mg_28, mp_0, mp_1, mp_2, mp_3, mp_4, mp_5, mp_6, mp_13, mp_14, mp_15, mp_16, mp_17, mp_18, mp_19, mp_20, mp_21, mp_23, mL_1, mL_2, mL_3, mL_4, mL_5, mL_6, mL_7, mL_8, mL_9, mL_10, mL_11, mL_12, mS_1, mS_2, mS_3, mS_4, mS_5, mS_6, mS_7, mS_8, mS_9, mS_10, mS_11, mS_12, m_gO, uA_s, uA_n, cI_lt, cI_eq, ↓reduceIte, if_true, if_false, Nat.lt_irrefl, eq_self, Nat.reduceEqDiff, or_true, true_or, or_false, false_or, not_false_eq_true, not_true_eq_false, ce_5, zb_t, zb_f, h2, hc, hd0, m_at hM, e5, e, key, f0, Bool.and_false, Bool.false_eq_true, Nat.zero_add]
    · have hs : S.c (r * 5 + c) < 5 := by have := hg.c5 (r * 5 + c); omega
      have f0 : S.fr r c bz us = (!bz c && !us (S.c (r * 5 + c))) := by unfold GS.fr; rw [decide_eq_false e]; rfl
      simp (disch := omega) only [ze_171_0, ze_171_1, ze_171_2, ze_171_5, ze_171_8, ze_171_9, ze_171_10, ze_171_11, ze_171_13, ze_171_14, ze_171_18, ze_171_19, ze_171_22, ze_171_25, ze_171_26, ze_171_27, ze_171_29, ze_171_32, ze_171_34, ze_171_36, ze_171_37, ze_171_40, ze_171_41, ze_171_43, ze_171_44, ze_171_45, ze_171_46, ze_171_47, ze_171_50, ze_171_51, ze_171_53, ze_171_54, ze_171_55, ze_171_56, ze_171_57, ze_171_60, ze_171_61, ze_171_63, ze_171_66, ze_171_68, ze_171_70, ze_171_73, ze_171_76, ze_171_78, ze_171_79, ze_171_80, ze_171_81, ze_171_82, ze_171_83, ze_171_84, ze_171_86, ze_171_87, ze_171_88, ze_171_89, ze_171_90, ze_171_92, ze_171_93, ze_171_94, ze_171_96, ze_171_98, ze_171_101, ze_171_102, ze_171_104, ze_171_107, ze_171_110, ze_171_112, z_k_r, z_push_s, z_push_n, okS_0, okS_I, okS_R, okS_A, List.getElem?_cons_zero, List.getElem?_cons_succ, List.length_cons, List.length_nil, List.set_cons_zero, List.set_cons_succ, true_and, and_true, z_tI, z_tB, pk_mul, nI_add, cI_cl, cI_ix, nar_0, nar_1, nar_b, Nat.reduceAdd, Nat.reduceLT, Nat.reduceMul, mg_0, mg_1, mg_2, mg_3, mg_4, mg_5, mg_6, mg_7, mg_8, mg_9, mg_10, mg_11, mg_12, mg_13, mg_14, mg_15, mg_16, mg_17, mg_18, mg_19, mg_20, mg_21, mg_22, mg_23, mg_24, mg_25, mg_26, mg_27, mg_28, mp_0, mp_1, mp_2, mp_3, mp_4, mp_5, mp_6, mp_13, mp_14, mp_15, mp_16, mp_17, mp_18, mp_19, mp_20, mp_21, mp_23, mL_1, mL_2, mL_3, mL_4, mL_5, mL_6, mL_7, mL_8, mL_9, mL_10, mL_11, mL_12, mS_1, mS_2, mS_3, mS_4, mS_5, mS_6, mS_7, mS_8, mS_9, mS_10, mS_11, mS_12, m_gO, uA_s, uA_n, cI_lt, cI_eq, ↓reduceIte, if_true, if_false, Nat.lt_irrefl, eq_self, Nat.reduceEqDiff, or_true, true_or, or_false, false_or, not_false_eq_true, not_true_eq_false, ce_5, zb_t, zb_f, h2, hc, hd0, m_at hM, on_m1, key, ce_lt hs, sS_bit, zb_1, sS_one, sS_or, ih]
      rw [f0]
      generalize sm (fun c => if (fxc FR FC r c && S.fr r c bz us) = true then F (ad bz c) (ad us (S.c (r * 5 + c))) else 0) (c + 1) k = G
      unfold fxc
      cases e1 : bz c
      · cases e2 : us (S.c (r * 5 + c))
        · rw [if_neg Bool.false_ne_true, if_neg Bool.false_ne_true]
          by_cases w1 : nI r = FR
          · by_cases w2 : nI c = FC
            · rw [if_pos w1, if_pos w2, decide_eq_true w2, Bool.or_true, Nat.add_assoc]
              rfl
            · rw [if_pos w1, if_neg w2, decide_eq_false w2, decide_eq_false (not_not_intro w1), Bool.or_false, Bool.false_and, if_neg Bool.false_ne_true, Nat.zero_add]
          · rw [if_neg w1, decide_eq_true w1, Bool.true_or, Nat.add_assoc]
            rfl
        · rw [if_neg Bool.false_ne_true, if_pos rfl, Bool.not_true, Bool.and_false, Bool.and_false, if_neg Bool.false_ne_true, Nat.zero_add]
      · rw [if_pos rfl, Bool.not_true, Bool.false_and, Bool.and_false, if_neg Bool.false_ne_true, Nat.zero_add]
theorem m_acr (hM : MH I A S) (hg : GI S) : ∀ (k d r : Nat) (bz us : Nat → Bool) (P : z_Res → Prop), r + k = S.R → k + 2 < d → z_Ca g d 171 [.ref m, .int (nI r), .int (sS bz), .int (sS us), .int FR, .int FC] (mw f m I A, q) P = P (.inr (some (.int (nI (S.ac (fxc FR FC) k r bz us)))), (mw f m I A, q))
  | 0, d, r, bz, us, P, h, hd => by
    have : r = S.R := by omega
    subst this
    have hC := hg.C5
    have hRC := hg.RC
    have h1 := hM.1
    rw [zn_171]
    simp (disch := omega) only [ze_171_0, ze_171_1, ze_171_2, ze_171_5, ze_171_8, ze_171_9, ze_171_10, ze_171_11, ze_171_13, ze_171_14, ze_171_18, ze_171_19, ze_171_22, ze_171_25, ze_171_26, ze_171_27, ze_171_29, ze_171_32, ze_171_34, ze_171_36, ze_171_37, ze_171_40, ze_171_41, ze_171_43, ze_171_44, ze_171_45, ze_171_46, ze_171_47, ze_171_50, ze_171_51, ze_171_53, ze_171_54, ze_171_55, ze_171_56, ze_171_57, ze_171_60, ze_171_61, ze_171_63, ze_171_66, ze_171_68, ze_171_70, ze_171_73, ze_171_76, ze_171_78, ze_171_79, ze_171_80, ze_171_81, ze_171_82, ze_171_83, ze_171_84, ze_171_86, ze_171_87, ze_171_88, ze_171_89, ze_171_90, ze_171_92, ze_171_93, ze_171_94, ze_171_96, ze_171_98, ze_171_101, ze_171_102, ze_171_104, ze_171_107, ze_171_110, ze_171_112, z_k_r, z_push_s, z_push_n, okS_0, okS_I, okS_R, okS_A, List.getElem?_cons_zero, List.getElem?_cons_succ, List.length_cons, List.length_nil, List.set_cons_zero, List.set_cons_succ, true_and, and_true, z_tI, z_tB, pk_mul, nI_add, cI_cl, cI_ix, nar_0, nar_1, nar_b, Nat.reduceAdd, Nat.reduceLT, Nat.reduceMul, mg_0, mg_1, mg_2, mg_3, mg_4, mg_5, mg_6, mg_7, mg_8, mg_9, mg_10, mg_11, mg_12, mg_13, mg_14, mg_15, mg_16, mg_17, mg_18, mg_19, mg_20, mg_21, mg_22, mg_23, mg_24, mg_25, mg_26, mg_27, mg_28, mp_0, mp_1, mp_2, mp_3, mp_4, mp_5, mp_6, mp_13, mp_14, mp_15, mp_16, mp_17, mp_18, mp_19, mp_20, mp_21, mp_23, mL_1, mL_2, mL_3, mL_4, mL_5, mL_6, mL_7, mL_8, mL_9, mL_10, mL_11, mL_12, mS_1, mS_2, mS_3, mS_4, mS_5, mS_6, mS_7, mS_8, mS_9, mS_10, mS_11, mS_12, m_gO, uA_s, uA_n, cI_lt, cI_eq, ↓reduceIte, if_true, if_false, Nat.lt_irrefl, eq_self, Nat.reduceEqDiff, or_true, true_or, or_false, false_or, not_false_eq_true, not_true_eq_false, ce_5, zb_t, zb_f, h1]
    rfl
  | k + 1, d, r, bz, us, P, h, hd => by
    have hr : r < S.R := by omega
    have hne : ¬ r = S.R := by omega
    have hC := hg.C5
    have hRC := hg.RC
    have h1 := hM.1
    rw [zn_171]
    simp (disch := omega) only [ze_171_0, ze_171_1, ze_171_2, ze_171_5, ze_171_8, ze_171_9, ze_171_10, ze_171_11, ze_171_13, ze_171_14, ze_171_18, ze_171_19, ze_171_22, ze_171_25, ze_171_26, ze_171_27, ze_171_29, ze_171_32, ze_171_34, ze_171_36, ze_171_37, ze_171_40, ze_171_41, ze_171_43, ze_171_44, ze_171_45, ze_171_46, ze_171_47, ze_171_50, ze_171_51, ze_171_53, ze_171_54, ze_171_55, ze_171_56, ze_171_57, ze_171_60, ze_171_61, ze_171_63, ze_171_66, ze_171_68, ze_171_70, ze_171_73, ze_171_76, ze_171_78, ze_171_79, ze_171_80, ze_171_81, ze_171_82, ze_171_83, ze_171_84, ze_171_86, ze_171_87, ze_171_88, ze_171_89, ze_171_90, ze_171_92, ze_171_93, ze_171_94, ze_171_96, ze_171_98, ze_171_101, ze_171_102, ze_171_104, ze_171_107, ze_171_110, ze_171_112, z_k_r, z_push_s, z_push_n, okS_0, okS_I, okS_R, okS_A, List.getElem?_cons_zero, List.getElem?_cons_succ, List.length_cons, List.length_nil, List.set_cons_zero, List.set_cons_succ, true_and, and_true, z_tI, z_tB, pk_mul, nI_add, cI_cl, cI_ix, nar_0, nar_1, nar_b, Nat.reduceAdd, Nat.reduceLT, Nat.reduceMul, mg_0, mg_1, mg_2, mg_3, mg_4, mg_5, mg_6, mg_7, mg_8, mg_9, mg_10, mg_11, mg_12, mg_13, mg_14, mg_15, mg_16, mg_17, mg_18, mg_19, mg_20, mg_21, mg_22, mg_23, mg_24, mg_25, mg_26, mg_27, mg_28, mp_0, mp_1, mp_2, mp_3, mp_4, mp_5, mp_6, mp_13, mp_14, mp_15, mp_16, mp_17, mp_18, mp_19, mp_20, mp_21, mp_23, mL_1, mL_2, mL_3, mL_4, mL_5, mL_6, mL_7, mL_8, mL_9, mL_10, mL_11, mL_12, mS_1, mS_2, mS_3, mS_4, mS_5, mS_6, mS_7, mS_8, mS_9, mS_10, mS_11, mS_12, m_gO, uA_s, uA_n, cI_lt, cI_eq, ↓reduceIte, if_true, if_false, Nat.lt_irrefl, eq_self, Nat.reduceEqDiff, or_true, true_or, or_false, false_or, not_false_eq_true, not_true_eq_false, ce_5, zb_t, zb_f, h1, hne]
    rw [m_acr1 hM hg (by omega) hr bz us (fun bz us P => m_acr hM hg k (d - 1) (r + 1) bz us P (by omega) (by omega)) S.C 0 0 _ (by omega), Nat.zero_add]
    rfl
end
