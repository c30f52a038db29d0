/-! transversals: how many, the longest -/
def GS.fr (S : GS) (r c : Nat) (bz us : Nat → Bool) : Bool := !decide (S.c (r * 5 + c) = 5) && !bz c && !us (S.c (r * 5 + c))
def ad (p : Nat → Bool) (c : Nat) : Nat → Bool := fun x => p x || decide (x = c)
def GS.ac (S : GS) (fx : Nat → Nat → Bool) : Nat → Nat → (Nat → Bool) → (Nat → Bool) → Nat
  | 0, _, _, _ => 1
  | k + 1, r, bz, us => sm (fun c => if (fx r c && S.fr r c bz us) = true then S.ac fx k (r + 1) (ad bz c) (ad us (S.c (r * 5 + c))) else 0) 0 S.C
theorem bit_0 {x : Nat} (h : x ≤ 5) : (sS (fun t => decide (t = x)) = nI 0) = (x = 5) := by
  rw [sS_eq0]
  refine propext ⟨fun z => ?_, fun z t ht => decide_eq_false (by omega)⟩
  apply Classical.byContradiction
  intro e
  have := z x (by omega)
  rw [decide_eq_true rfl] at this
  cases this
theorem bit_and {u : Nat → Bool} {x : Nat} (h : x < 5) : (sS (fun t => u t && decide (t = x)) = nI 0) = (u x = false) := by
  rw [sS_eq0]
  refine propext ⟨fun z => ?_, fun z t ht => ?_⟩
  · have := z x h
    rw [decide_eq_true rfl, Bool.and_true] at this
    exact this
  · by_cases e : t = x
    · rw [e, z, Bool.false_and]
    · rw [decide_eq_false e, Bool.and_false]
section
variable {g : z_G} {d : Nat} {f : Nat → Option z_C} {q : Option Nat × Nat × Nat} {P : z_Res → Prop} {a ch : Nat} {S : GS} {FR FC : Int32} {cr : Nat}
theorem t_bit (hT : gw f a S.w ch = some (.inr (8, [.ref a, .ref cr, .int FR, .int FC]))) (hc : ∀ k, S.c k ≤ 5) {r c : Nat} (hr : r < 5) (hj : c < 5) : z_Ca g d 66 [.ref ch, .int (nI r), .int (nI c)] (gw f a S.w, q) P = P (.inr (some (.int (sS fun t => decide (t = S.c (r * 5 + c))))), (gw f a S.w, q)) := by
  have e5 := ce_em (hc (r * 5 + c))
  rw [zn_66]
  simp (disch := omega) only [ze_66_0, ze_66_1, ze_66_4, ze_66_7, ze_66_8, ze_66_9, ze_66_10, ze_66_11, ze_66_12, ze_66_13, ze_66_14, ze_66_15, ze_66_16, ze_66_19, ze_66_20, ze_66_23, ze_66_24, ze_66_25, ze_66_26, z_gI, z_gR, z_pF, z_aL, z_aS, z_gO, z_k_r, z_push_s, z_push_n, okS_0, okS_I, okS_R, okS_A, List.getElem?_cons_zero, List.getElem?_cons_succ, List.length_cons, List.length_nil, List.set_cons_zero, List.set_cons_succ, true_and, and_true, z_tI, z_tB, pk_mul, nI_add, cI_cl, cI_ix, arr_at, arr_upd, nar_0, nar_1, nar_b, Nat.reduceAdd, Nat.reduceLT, Nat.reduceMul, cI_lt, cI_eq, ↓reduceIte, if_true, if_false, Nat.lt_irrefl, eq_self, Nat.reduceEqDiff, or_true, true_or, or_false, not_false_eq_true, not_true_eq_false, ce_5, zb_t, zb_f, hT, pGW_A, pGW_V, pGW_B, pGW_r, pGW_c, pGW_R, pGW_C, pGW_F, pGW_G, pGW_N, pGS_c, pGS_gv, pGS_b, pGS_R, pGS_C, pGS_G, pGS_N, gw_0, gw_1, gw_2, gw_3, gw_4, gw_5, gw_u0, gw_u1, gw_u2, gw_u3, gw_u4, gw_u5, gs_A, gs_V, gs_B, gs_r, gs_c, gs_R, gs_C, gs_F, gs_G, gs_N, e5]
  by_cases e : S.c (r * 5 + c) = 5
  · simp (disch := omega) only [e, cI_lt, cI_eq, ↓reduceIte, if_true, if_false, Nat.lt_irrefl, eq_self, Nat.reduceEqDiff, or_true, true_or, or_false, not_false_eq_true, not_true_eq_false, ce_5, zb_t, zb_f]
    rw [sS_0, sS_congr]
    intro t ht
    exact (decide_eq_false (by omega)).symm
  · have hs : S.c (r * 5 + c) < 5 := by have := hc (r * 5 + c); omega
    simp (disch := omega) only [e, cI_lt, cI_eq, ↓reduceIte, if_true, if_false, Nat.lt_irrefl, eq_self, Nat.reduceEqDiff, or_true, true_or, or_false, not_false_eq_true, not_true_eq_false, ce_5, zb_t, zb_f, ce_lt hs, sS_one]
theorem t_free (hT : gw f a S.w ch = some (.inr (8, [.ref a, .ref cr, .int FR, .int FC]))) (hc : ∀ k, S.c k ≤ 5) (hd : 0 < d) {r c : Nat} (hr : r < 5) (hj : c < 5) (bz us : Nat → Bool) : z_Ca g d 65 [.ref ch, .int (nI r), .int (nI c), .int (sS bz), .int (sS us)] (gw f a S.w, q) P = P (.inr (some (.int (zb (S.fr r c bz us)))), (gw f a S.w, q)) := by
  rw [zn_65]
  simp (disch := omega) only [ze_65_0, ze_65_1, ze_65_2, ze_65_3, ze_65_6, ze_65_8, ze_65_10, ze_65_13, ze_65_14, ze_65_15, ze_65_16, ze_65_17, ze_65_18, ze_65_21, ze_65_23, ze_65_25, ze_65_26, ze_65_29, ze_65_30, ze_65_33, ze_65_34, z_gI, z_gR, z_pF, z_aL, z_aS, z_gO, z_k_r, z_push_s, z_push_n, okS_0, okS_I, okS_R, okS_A, List.getElem?_cons_zero, List.getElem?_cons_succ, List.length_cons, List.length_nil, List.set_cons_zero, List.set_cons_succ, true_and, and_true, z_tI, z_tB, pk_mul, nI_add, cI_cl, cI_ix, arr_at, arr_upd, nar_0, nar_1, nar_b, Nat.reduceAdd, Nat.reduceLT, Nat.reduceMul, cI_lt, cI_eq, ↓reduceIte, if_true, if_false, Nat.lt_irrefl, eq_self, Nat.reduceEqDiff, or_true, true_or, or_false, not_false_eq_true, not_true_eq_false, ce_5, zb_t, zb_f, hT, t_bit hT hc, hd, bit_0 (hc _), sS_bit, zb_0, sS_and]
  unfold GS.fr
  by_cases e : S.c (r * 5 + c) = 5
  · simp (disch := omega) only [e, cI_lt, cI_eq, ↓reduceIte, if_true, if_false, Nat.lt_irrefl, eq_self, Nat.reduceEqDiff, or_true, true_or, or_false, not_false_eq_true, not_true_eq_false, ce_5, zb_t, zb_f, decide_true, Bool.not_true, Bool.false_and]
  · have hs : S.c (r * 5 + c) < 5 := by have := hc (r * 5 + c); omega
    simp (disch := omega) only [e, cI_lt, cI_eq, ↓reduceIte, if_true, if_false, Nat.lt_irrefl, eq_self, Nat.reduceEqDiff, or_true, true_or, or_false, not_false_eq_true, not_true_eq_false, ce_5, zb_t, zb_f, decide_false, Bool.not_false, Bool.true_and, bit_and hs]
    cases e1 : bz c <;> cases e2 : us (S.c (r * 5 + c)) <;> simp [zb, cI_eq]
def fxc (FR FC : Int32) (r c : Nat) : Bool := decide (¬ nI r = FR) || decide (nI c = FC)
theorem t_cnt1 (hT : gw f a S.w ch = some (.inr (8, [.ref a, .ref cr, .int FR, .int FC]))) (hg : GI S) (hd : 1 < d) {r : Nat} (hr : r < S.R) (bz us : Nat → Bool) {F : (Nat → Bool) → (Nat → Bool) → Nat}
    (ih : ∀ (bz us : Nat → Bool) (P : z_Res → Prop), z_Ca g (d - 1) 63 [.ref ch, .int (nI (r + 1)), .int (sS bz), .int (sS us)] (gw f a S.w, q) P = P (.inr (some (.int (nI (F bz us)))), (gw f a S.w, q))) :
    ∀ (k c n : Nat) (v : Value), c + k = S.C → z_T g d 63 19 [.ref ch, .int (nI r), .int (sS bz), .int (sS us), .int (nI n), .int (nI c), v] [] (gw f a S.w, q) P = P (.inr (some (.int (nI (n + sm (fun c => if (fxc FR FC r c && S.fr r c bz us) = true then F (ad bz c) (ad us (S.c (r * 5 + c))) else 0) c k)))), (gw f a S.w, q))
  | 0, c, n, v, h => by
    have : c = S.C := by omega
    subst this
    have hC := hg.C5
    rw [ze_63_19]
    simp (disch := omega) only [ze_63_0, ze_63_1, ze_63_2, ze_63_5, ze_63_8, ze_63_11, ze_63_12, ze_63_13, ze_63_14, ze_63_16, ze_63_17, ze_63_21, ze_63_22, ze_63_25, ze_63_28, ze_63_31, ze_63_32, ze_63_33, ze_63_36, ze_63_39, ze_63_41, ze_63_42, ze_63_45, ze_63_48, ze_63_49, ze_63_52, ze_63_53, ze_63_55, ze_63_57, ze_63_60, ze_63_61, ze_63_62, ze_63_64, ze_63_65, ze_63_66, ze_63_69, ze_63_72, ze_63_74, ze_63_75, ze_63_76, ze_63_77, ze_63_78, ze_63_79, ze_63_80, ze_63_82, ze_63_83, ze_63_84, ze_63_85, ze_63_86, ze_63_87, ze_63_89, ze_63_92, ze_63_93, ze_63_96, ze_63_97, ze_63_99, ze_63_102, ze_63_105, ze_63_107, z_gI, z_gR, z_pF, z_aL, z_aS, z_gO, z_k_r, z_push_s, z_push_n, okS_0, okS_I, okS_R, okS_A, List.getElem?_cons_zero, List.getElem?_cons_succ, List.length_cons, List.length_nil, List.set_cons_zero, List.set_cons_succ, true_and, and_true, z_tI, z_tB, pk_mul, nI_add, cI_cl, cI_ix, arr_at, arr_upd, nar_0, nar_1, nar_b, Nat.reduceAdd, Nat.reduceLT, Nat.reduceMul, cI_lt, cI_eq, ↓reduceIte, if_true, if_false, Nat.lt_irrefl, eq_self, Nat.reduceEqDiff, or_true, true_or, or_false, not_false_eq_true, not_true_eq_false, ce_5, zb_t, zb_f, hT, pGW_A, pGW_V, pGW_B, pGW_r, pGW_c, pGW_R, pGW_C, pGW_F, pGW_G, pGW_N, pGS_c, pGS_gv, pGS_b, pGS_R, pGS_C, pGS_G, pGS_N, gw_0, gw_1, gw_2, gw_3, gw_4, gw_5, gw_u0, gw_u1, gw_u2, gw_u3, gw_u4, gw_u5, gs_A, gs_V, gs_B, gs_r, gs_c, gs_R, gs_C, gs_F, gs_G, gs_N, sm_z, Nat.add_zero]
  | k + 1, c, n, v, h => by
    have hC := hg.C5
    have hRC := hg.RC
    have hc : c < S.C := by omega
    have hd0 : 0 < d := by omega
    have key : ∀ n v, z_T g d 63 19 [.ref ch, .int (nI r), .int (sS bz), .int (sS us), .int (nI n), .int (nI (c + 1)), v] [] (gw f a S.w, q) P = _ := fun n v => t_cnt1 hT hg hd hr bz us ih k (c + 1) n v (by omega)
    rw [ze_63_19, sm_s]
    simp (disch := omega) only [ze_63_0, ze_63_1, ze_63_2, ze_63_5, ze_63_8, ze_63_11, ze_63_12, ze_63_13, ze_63_14, ze_63_16, ze_63_17, ze_63_21, ze_63_22, ze_63_25, ze_63_28, ze_63_31, ze_63_32, ze_63_33, ze_63_36, ze_63_39, ze_63_41, ze_63_42, ze_63_45, ze_63_48, ze_63_49, ze_63_52, ze_63_53, ze_63_55, ze_63_57, ze_63_60, ze_63_61, ze_63_62, ze_63_64, ze_63_65, ze_63_66, ze_63_69, ze_63_72, ze_63_74, ze_63_75, ze_63_76, ze_63_77, ze_63_78, ze_63_79, ze_63_80, ze_63_82, ze_63_83, ze_63_84, ze_63_85, ze_63_86, ze_63_87, ze_63_89, ze_63_92, ze_63_93, ze_63_96, ze_63_97, ze_63_99, ze_63_102, ze_63_105, ze_63_107, z_gI, z_gR, z_pF, z_aL, z_aS, z_gO, z_k_r, z_push_s, z_push_n, okS_0, okS_I, okS_R, okS_A, List.getElem?_cons_zero, List.getElem?_cons_succ, List.length_cons, List.length_nil, List.set_cons_zero, List.set_cons_succ, true_and, and_true, z_tI, z_tB, pk_mul, nI_add, cI_cl, cI_ix, arr_at, arr_upd, nar_0, nar_1, nar_b, Nat.reduceAdd, Nat.reduceLT, Nat.reduceMul, cI_lt, cI_eq, ↓reduceIte, if_true, if_false, Nat.lt_irrefl, eq_self, Nat.reduceEqDiff, or_true, true_or, or_false, not_false_eq_true, not_true_eq_false, ce_5, zb_t, zb_f, hT, pGW_A, pGW_V, pGW_B, pGW_r, pGW_c, pGW_R, pGW_C, pGW_F, pGW_G, pGW_N, pGS_c, pGS_gv, pGS_b, pGS_R, pGS_C, pGS_G, pGS_N, gw_0, gw_1, gw_2, gw_3, gw_4, gw_5, gw_u0, gw_u1, gw_u2, gw_u3, gw_u4, gw_u5, gs_A, gs_V, gs_B, gs_r, gs_c, gs_R, gs_C, gs_F, gs_G, gs_N, hc, hd0, t_free hT hg.c5, t_bit hT hg.c5, zb_0, sS_one, sS_or, ih, key]
    generalize sm (fun c => if (fxc FR FC r c && S.fr r c bz us) = true then F (ad bz c) (ad us (S.c (r * 5 + c))) else 0) (c + 1) k = G
    unfold fxc
    have X : (if S.fr r c bz us = false then P (.inr (some (.int (nI (n + G)))), (gw f a S.w, q)) else P (.inr (some (.int (nI (n + F (ad bz c) (ad us (S.c (r * 5 + c))) + G)))), (gw f a S.w, q))) = P (.inr (some (.int (nI (n + ((if S.fr r c bz us = true then F (ad bz c) (ad us (S.c (r * 5 + c))) else 0) + G))))), (gw f a S.w, q)) := by
      cases e : S.fr r c bz us
      · rw [if_pos rfl, if_neg Bool.false_ne_true, Nat.zero_add]
      · rw [if_neg (by decide), if_pos rfl, Nat.add_assoc]
    by_cases w1 : nI r = FR
    · by_cases w2 : nI c = FC
      · rw [if_pos w1, if_pos w2, decide_eq_true w2, Bool.or_true, Bool.true_and]
        exact X
      · rw [if_pos w1, if_neg w2, decide_eq_false w2, decide_eq_false (not_not_intro w1), Bool.or_false, Bool.false_and, if_neg Bool.false_ne_true, Nat.zero_add]
    · rw [if_neg w1, decide_eq_true w1, Bool.true_or, Bool.true_and]
      exact X
theorem t_cnt (hT : gw f a S.w ch = some (.inr (8, [.ref a, .ref cr, .int FR, .int FC]))) (hg : GI S) : ∀ (k d r : Nat) (bz us : Nat → Bool) (P : z_Res → Prop), r + k = S.R → k + 2 < d → z_Ca g d 63 [.ref ch, .int (nI r), .int (sS bz), .int (sS us)] (gw f a S.w, q) P = P (.inr (some (.int (nI (S.ac (fxc FR FC) k r bz us)))), (gw f a S.w, q))
  | 0, d, r, bz, us, P, h, hd => by
    have : r = S.R := by omega
    subst this
    have hC := hg.C5
    have hRC := hg.RC
    rw [zn_63]
    simp (disch := omega) only [ze_63_0, ze_63_1, ze_63_2, ze_63_5, ze_63_8, ze_63_11, ze_63_12, ze_63_13, ze_63_14, ze_63_16, ze_63_17, ze_63_21, ze_63_22, ze_63_25, ze_63_28, ze_63_31, ze_63_32, ze_63_33, ze_63_36, ze_63_39, ze_63_41, ze_63_42, ze_63_45, ze_63_48, ze_63_49, ze_63_52, ze_63_53, ze_63_55, ze_63_57, ze_63_60, ze_63_61, ze_63_62, ze_63_64, ze_63_65, ze_63_66, ze_63_69, ze_63_72, ze_63_74, ze_63_75, ze_63_76, ze_63_77, ze_63_78, ze_63_79, ze_63_80, ze_63_82, ze_63_83, ze_63_84, ze_63_85, ze_63_86, ze_63_87, ze_63_89, ze_63_92, ze_63_93, ze_63_96, ze_63_97, ze_63_99, ze_63_102, ze_63_105, ze_63_107, z_gI, z_gR, z_pF, z_aL, z_aS, z_gO, z_k_r, z_push_s, z_push_n, okS_0, okS_I, okS_R, okS_A, List.getElem?_cons_zero, List.getElem?_cons_succ, List.length_cons, List.length_nil, List.set_cons_zero, List.set_cons_succ, true_and, and_true, z_tI, z_tB, pk_mul, nI_add, cI_cl, cI_ix, arr_at, arr_upd, nar_0, nar_1, nar_b, Nat.reduceAdd, Nat.reduceLT, Nat.reduceMul, cI_lt, cI_eq, ↓reduceIte, if_true, if_false, Nat.lt_irrefl, eq_self, Nat.reduceEqDiff, or_true, true_or, or_false, not_false_eq_true, not_true_eq_false, ce_5, zb_t, zb_f, hT, pGW_A, pGW_V, pGW_B, pGW_r, pGW_c, pGW_R, pGW_C, pGW_F, pGW_G, pGW_N, pGS_c, pGS_gv, pGS_b, pGS_R, pGS_C, pGS_G, pGS_N, gw_0, gw_1, gw_2, gw_3, gw_4, gw_5, gw_u0, gw_u1, gw_u2, gw_u3, gw_u4, gw_u5, gs_A, gs_V, gs_B, gs_r, gs_c, gs_R, gs_C, gs_F, gs_G, gs_N]
    rfl
  | k + 1, d, r, bz, us, P, h, hd => by
    have hr : r < S.R := by omega
    have hC := hg.C5
    have hRC := hg.RC
    rw [zn_63]
    simp (disch := omega) only [ze_63_0, ze_63_1, ze_63_2, ze_63_5, ze_63_8, ze_63_11, ze_63_12, ze_63_13, ze_63_14, ze_63_16, ze_63_17, ze_63_21, ze_63_22, ze_63_25, ze_63_28, ze_63_31, ze_63_32, ze_63_33, ze_63_36, ze_63_39, ze_63_41, ze_63_42, ze_63_45, ze_63_48, ze_63_49, ze_63_52, ze_63_53, ze_63_55, ze_63_57, ze_63_60, ze_63_61, ze_63_62, ze_63_64, ze_63_65, ze_63_66, ze_63_69, ze_63_72, ze_63_74, ze_63_75, ze_63_76, ze_63_77, ze_63_78, ze_63_79, ze_63_80, ze_63_82, ze_63_83, ze_63_84, ze_63_85, ze_63_86, ze_63_87, ze_63_89, ze_63_92, ze_63_93, ze_63_96, ze_63_97, ze_63_99, ze_63_102, ze_63_105, ze_63_107, z_gI, z_gR, z_pF, z_aL, z_aS, z_gO, z_k_r, z_push_s, z_push_n, okS_0, okS_I, okS_R, okS_A, List.getElem?_cons_zero, List.getElem?_cons_succ, List.length_cons, List.length_nil, List.set_cons_zero, List.set_cons_succ, true_and, and_true, z_tI, z_tB, pk_mul, nI_add, cI_cl, cI_ix, arr_at, arr_upd, nar_0, nar_1, nar_b, Nat.reduceAdd, Nat.reduceLT, Nat.reduceMul, cI_lt, cI_eq, ↓reduceIte, if_true, if_false, Nat.lt_irrefl, eq_self, Nat.reduceEqDiff, or_true, true_or, or_false, not_false_eq_true, not_true_eq_false, ce_5, zb_t, zb_f, hT, pGW_A, pGW_V, pGW_B, pGW_r, pGW_c, pGW_R, pGW_C, pGW_F, pGW_G, pGW_N, pGS_c, pGS_gv, pGS_b, pGS_R, pGS_C, pGS_G, pGS_N, gw_0, gw_1, gw_2, gw_3, gw_4, gw_5, gw_u0, gw_u1, gw_u2, gw_u3, gw_u4, gw_u5, gs_A, gs_V, gs_B, gs_r, gs_c, gs_R, gs_C, gs_F, gs_G, gs_N, hr]
    rw [t_cnt1 hT hg (by omega) hr bz us (fun bz us P => t_cnt hT hg k (d - 1) (r + 1) bz us P (by omega) (by omega)) S.C 0 0 _ (by omega), Nat.zero_add]
    rfl
end
