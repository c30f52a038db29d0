/-! transversals: how many, the longest -/
def GS.fr (S : GS) (r c : Nat) (bz us : Nat → Bool) : Bool := !decide (S.c (r * 5 + c) = 5) && !bz c && !us (S.c (r * 5 + c))
def ad (p : Nat → Bool) (c : Nat) : Nat → Bool := fun x => p x || decide (x = c)
def GS.ac (S : GS) (fx : Nat → Nat → Bool) : Nat → Nat → (Nat → Bool) → (Nat → Bool) → Nat
  | 0, _, _, _ => 1
  | k + 1, r, bz, us => sm (fun c => if (fx r c && S.fr r c bz us) = true then S.ac fx k (r + 1) (ad bz c) (ad us (S.c (r * 5 + c))) else 0) 0 S.C
theorem bit_0 {x : Nat} (h : x ≤ 5) : (sS (fun t => decide (t = x)) = nI 0) = (x = 5) := by
  rw [sS_eq0]
  refine propext ⟨fun z => ?_, fun z t ht => decide_eq_false (by omega)⟩
  apply Classical.byContradiction
  intro e
  have := z x (by omega)
  rw [decide_eq_true rfl] at this
  cases this
theorem bit_and {u : Nat → Bool} {x : Nat} (h : x < 5) : (sS (fun t => u t && decide (t = x)) = nI 0) = (u x = false) := by
  rw [sS_eq0]
  refine propext ⟨fun z => ?_, fun z t ht => ?_⟩
  · have := z x h
    rw [decide_eq_true rfl, Bool.and_true] at this
    exact this
  · by_cases e : t = x
    · rw [e, z, Bool.false_and]
    · rw [decide_eq_false e, Bool.and_false]
section
variable {g : z_G} {d : Nat} {f : Nat → Option z_C} {q : Option Nat × Nat × Nat} {P : z_Res → Prop} {a ch : Nat} {S : GS} {FR FC : Int32} {cr : Nat}
theorem t_bit (hT : gw f a S.w ch = some (.inr (8, [.ref a, .ref cr, .int FR, .int FC]))) (hc : ∀ k, S.c k ≤ 5) {r c : Nat} (hr : r < 5) (hj : c < 5) : z_Ca g d 78 [.ref ch, .int (nI r), .int (nI c)] (gw f a S.w, q) P = P (.inr (some (.int (sS fun t => decide (t = S.c (r * 5 + c))))), (gw f a S.w, q)) := by
  have e5 := ce_em (hc (r * 5 + c))
  rw [zn_78]
  simp (disch := omega) only [ze_78_0, ze_78_1, ze_78_4, ze_78_7, ze_78_8, ze_78_9, ze_78_10, ze_78_11, ze_78_12, ze_78_13, ze_78_14, ze_78_15, ze_78_16, ze_78_19, ze_78_20, ze_78_23, ze_78_24, ze_78_25, ze_78_26, z_gI, z_gR, z_pF, z_aL, z_aS, z_gO, z_k_r, z_push_s, z_push_n, okS_0, okS_I, okS_R, okS_A, List.getElem?_cons_zero, List.getElem?_cons_succ, List.length_cons, List.length_nil, List.set_cons_zero, List.set_cons_succ, true_and, and_true, z_tI, z_tB, pk_mul, nI_add, cI_cl, cI_ix, arr_at, arr_upd, nar_0, nar_1, nar_b, Nat.reduceAdd, Nat.reduceLT, Nat.reduceMul, cI_lt, cI_eq, ↓reduceIte, if_true, if_false, Nat.lt_irrefl, eq_self, Nat.reduceEqDiff, or_true, true_or, or_false, not_false_eq_true, not_true_eq_false, ce_5, zb_t, zb_f, hT, pGW_A, pGW_V, pGW_B, pGW_r, pGW_c, pGW_R, pGW_C, pGW_F, pGW_G, pGW_N, pGS_c, pGS_gv, pGS_b, pGS_R, pGS_C, pGS_G, pGS_N, gw_0, gw_1, gw_2, gw_3, gw_4, gw_5, gw_u0, gw_u1, gw_u2, gw_u3, gw_u4, gw_u5, gs_A, gs_V, gs_B, gs_r, gs_c, gs_R, gs_C, gs_F, gs_G, gs_N, e5]
  by_cases e : S.c (r * 5 + c) = 5
  · simp (disch := omega) only [e, cI_lt, cI_eq, ↓reduceIte, if_true, if_false, Nat.lt_irrefl, eq_self, Nat.reduceEqDiff, or_true, true_or, or_false, not_false_eq_true, not_true_eq_false, ce_5, zb_t, zb_f]
    rw [sS_0, sS_congr]
    intro t ht
    exact (decide_eq_false (by omega)).symm
  · have hs : S.c (r * 5 + c) < 5 := by have := hc (r * 5 + c); omega
    simp (disch := omega) only [e, cI_lt, cI_eq, ↓reduceIte, if_true, if_false, Nat.lt_irrefl, eq_self, Nat.reduceEqDiff, or_true, true_or, or_false, not_false_eq_true, not_true_eq_false, ce_5, zb_t, zb_f, ce_lt hs, sS_one]
theorem t_free (hT : gw f a S.w ch = some (.inr (8, [.ref a, .ref cr, .int FR, .int FC]))) (hc : ∀ k, S.c k ≤ 5) (hd : 0 < d) {r c : Nat} (hr : r < 5) (hj : c < 5) (bz us : Nat → Bool) : z_Ca g d 77 [.ref ch, .int (nI r), .int (nI c), .int (sS bz), .int (sS us)] (gw f a S.w, q) P = P (.inr (some (.int (zb (S.fr r c bz us)))), (gw f a S.w, q)) := by
  rw [zn_77]
  simp (disch := omega) only [ze_77_0, ze_77_1, ze_77_2, ze_77_3, ze_77_6, ze_77_8, ze_77_10, ze_77_13, ze_77_14, ze_77_15, ze_77_16, ze_77_17, ze_77_18, ze_77_21, ze_77_23, ze_77_25, ze_77_26, ze_77_29, ze_77_30, ze_77_33, ze_77_34, z_gI, z_gR, z_pF, z_aL, z_aS, z_gO, z_k_r, z_push_s, z_push_n, okS_0, okS_I, okS_R, okS_A, List.getElem?_cons_zero, List.getElem?_cons_succ, List.length_cons, List.length_nil, List.set_cons_zero, List.set_cons_succ, true_and, and_true, z_tI, z_tB, pk_mul, nI_add, cI_cl, cI_ix, arr_at, arr_upd, nar_0, nar_1, nar_b, Nat.reduceAdd, Nat.reduceLT, Nat.reduceMul, cI_lt, cI_eq, ↓reduceIte, if_true, if_false, Nat.lt_irrefl, eq_self, Nat.reduceEqDiff, or_true, true_or, or_false, not_false_eq_true, not_true_eq_false, ce_5, zb_t, zb_f, hT, t_bit hT hc, hd, bit_0 (hc _), sS_bit, zb_0, sS_and]
  unfold GS.fr
  by_cases e : S.c (r * 5 + c) = 5
  · simp (disch := omega) only [e, cI_lt, cI_eq, ↓reduceIte, if_true, if_false, Nat.lt_irrefl, eq_self, Nat.reduceEqDiff, or_true, true_or, or_false, not_false_eq_true, not_true_eq_false, ce_5, zb_t, zb_f, decide_true, Bool.not_true, Bool.false_and]
  · have hs : S.c (r * 5 + c) < 5 := by have := hc (r * 5 + c); omega
    simp (disch := omega) only [e, cI_lt, cI_eq, ↓reduceIte, if_true, if_false, Nat.lt_irrefl, eq_self, Nat.reduceEqDiff, or_true, true_or, or_false, not_false_eq_true, not_true_eq_false, ce_5, zb_t, zb_f, decide_false, Bool.not_false, Bool.true_and, bit_and hs]
    cases e1 : bz c <;> cases e2 : us (S.c (r * 5 + c)) <;> simp [zb, cI_eq]
def fxc (FR FC : Int32) (r c : Nat) : Bool := decide (¬ nI r = FR) || decide (nI c = FC)
theorem t_cnt1 (hT : gw f a S.w ch = some (.inr (8, [.ref a, .ref cr, .int FR, .int FC]))) (hg : GI S) (hd : 1 < d) {r : Nat} (hr : r < S.R) (bz us : Nat → Bool) {F : (Nat → Bool) → (Nat → Bool) → Nat}
    (ih : ∀ (bz us : Nat → Bool) (P : z_Res → Prop), z_Ca g (d - 1) 74 [.ref ch, .int (nI (r + 1)), .int (sS bz), .int (sS us)] (gw f a S.w, q) P = P (.inr (some (.int (nI (F bz us)))), (gw f a S.w, q))) :
    ∀ (k c n : Nat) (v : Value), c + k = S.C → z_T g d 74 19 [.ref ch, .int (nI r), .int (sS bz), .int (sS us), .int (nI n), .int (nI c), v] [] (gw f a S.w, q) P = P (.inr (some (.int (nI (n + sm (fun c => if (fxc FR FC r c && S.fr r c bz us) = true then F (ad bz c) (ad us (S.c (r * 5 + c))) else 0) c k)))), (gw f a S.w, q))
  | 0, c, n, v, h => by
    have : c = S.C := by omega
    subst this
    have hC := hg.C5
    rw [ze_74_19]
    simp (disch := omega) only [ze_74_0, ze_74_1, ze_74_2, ze_74_5, ze_74_8, ze_74_11, ze_74_12, ze_74_13, ze_74_14, ze_74_16, ze_74_17, ze_74_21, ze_74_22, ze_74_25, ze_74_28, ze_74_31, ze_74_32, ze_74_33, ze_74_36, ze_74_39, ze_74_41, ze_74_42, ze_74_45, ze_74_48, ze_74_49, ze_74_52, ze_74_53, ze_74_55, ze_74_57, ze_74_60, ze_74_61, ze_74_62, ze_74_64, ze_74_65, ze_74_66, ze_74_69, ze_74_72, ze_74_74, ze_74_75, ze_74_76, ze_74_77, ze_74_78, ze_74_79, ze_74_80, ze_74_82, ze_74_83, ze_74_84, ze_74_85, ze_74_86, ze_74_87, ze_74_89, ze_74_92, ze_74_93, ze_74_96, ze_74_97, ze_74_99, ze_74_102, ze_74_105, ze_74_107, z_gI, z_gR, z_pF, z_aL, z_aS, z_gO, z_k_r, z_push_s, z_push_n, okS_0, okS_I, okS_R, okS_A, List.getElem?_cons_zero, List.getElem?_cons_succ, List.length_cons, List.length_nil, List.set_cons_zero, List.set_cons_succ, true_and, and_true, z_tI, z_tB, pk_mul, nI_add, cI_cl, cI_ix, arr_at, arr_upd, nar_0, nar_1, nar_b, Nat.reduceAdd, Nat.reduceLT, Nat.reduceMul, cI_lt, cI_eq, ↓reduceIte, if_true, if_false, Nat.lt_irrefl, eq_self, Nat.reduceEqDiff, or_true, true_or, or_false, not_false_eq_true, not_true_eq_false, ce_5, zb_t, zb_f, hT, pGW_A, pGW_V, pGW_B, pGW_r, pGW_c, pGW_R, pGW_C, pGW_F, pGW_G, pGW_N, pGS_c, pGS_gv, pGS_b, pGS_R, pGS_C, pGS_G, pGS_N, gw_0, gw_1, gw_2, gw_3, gw_4, gw_5, gw_u0, gw_u1, gw_u2, gw_u3, gw_u4, gw_u5, gs_A, gs_V, gs_B, gs_r, gs_c, gs_R, gs_C, gs_F, gs_G, gs_N, sm_z, Nat.add_zero]
  | k + 1, c, n, v, h => by
    have hC := hg.C5
    have hRC := hg.RC
    have hc : c < S.C := by omega
    have hd0 : 0 < d := by omega
    have key : ∀ n v, z_T g d 74 19 [.ref ch, .int (nI r), .int (sS bz), .int (sS us), .int (nI n), .int (nI (c + 1)), v] [] (gw f a S.w, q) P = _ := fun n v => t_cnt1 hT hg hd hr bz us ih k (c + 1) n v (by omega)
    rw [ze_74_19, sm_s]
    simp (disch := omega) only [ze_74_0, ze_74_1, ze_74_2, ze_74_5, ze_74_8, ze_74_11, ze_74_12, ze_74_13, ze_74_14, ze_74_16, ze_74_17, ze_74_21, ze_74_22, ze_74_25, ze_74_28, ze_74_31, ze_74_32, ze_74_33, ze_74_36, ze_74_39, ze_74_41, ze_74_42, ze_74_45, ze_74_48, ze_74_49, ze_74_52, ze_74_53, ze_74_55, ze_74_57, ze_74_60, ze_74_61, ze_74_62, ze_74_64, ze_74_65, ze_74_66, ze_74_69, ze_74_72, ze_74_74, ze_74_75, ze_74_76, ze_74_77, ze_74_78, ze_74_79, ze_74_80, ze_74_82, ze_74_83, ze_74_84, ze_74_85, ze_74_86, ze_74_87, ze_74_89, ze_74_92, ze_74_93, ze_74_96, ze_74_97, ze_74_99, ze_74_102, ze_74_105, ze_74_107, z_gI, z_gR, z_pF, z_aL, z_aS, z_gO, z_k_r, z_push_s, z_push_n, okS_0, okS_I, okS_R, okS_A, List.getElem?_cons_zero, List.getElem?_cons_succ, List.length_cons, List.length_nil, List.set_cons_zero, List.set_cons_succ, true_and, and_true, z_tI, z_tB, pk_mul, nI_add, cI_cl, cI_ix, arr_at, arr_upd, nar_0, nar_1, nar_b, Nat.reduceAdd, Nat.reduceLT, Nat.reduceMul, cI_lt, cI_eq, ↓reduceIte, if_true, if_false, Nat.lt_irrefl, eq_self, Nat.reduceEqDiff, or_true, true_or, or_false, not_false_eq_true, not_true_eq_false, ce_5, zb_t, zb_f, hT, pGW_A, pGW_V, pGW_B, pGW_r, pGW_c, pGW_R, pGW_C, pGW_F, pGW_G, pGW_N, pGS_c, pGS_gv, pGS_b, pGS_R, pGS_C, pGS_G, pGS_N, gw_0, gw_1, gw_2, gw_3, gw_4, gw_5, gw_u0, gw_u1, gw_u2, gw_u3, gw_u4, gw_u5, gs_A, gs_V, gs_B, gs_r, gs_c, gs_R, gs_C, gs_F, gs_G, gs_N, hc, hd0, t_free hT hg.c5, t_bit hT hg.c5, zb_0, sS_one, sS_or, ih, key]
    generalize sm (fun c => if (fxc FR FC r c && S.fr r c bz us) = true then F (ad bz c) (ad us (S.c (r * 5 + c))) else 0) (c + 1) k = G
    unfold fxc
    have X : (if S.fr r c bz us = false then P (.inr (some (.int (nI (n + G)))), (gw f a S.w, q)) else P (.inr (some (.int (nI (n + F (ad bz c) (ad us (S.c (r * 5 + c))) + G)))), (gw f a S.w, q))) = P (.inr (some (.int (nI (n + ((if S.fr r c bz us = true then F (ad bz c) (ad us (S.c (r * 5 + c))) else 0) + G))))), (gw f a S.w, q)) := by
      cases e : S.fr r c bz us
      · rw [if_pos rfl, if_neg Bool.false_ne_true, Nat.zero_add]
      · rw [if_neg (by decide), if_pos rfl, Nat.add_assoc]
    by_cases w1 : nI r = FR
    · by_cases w2 : nI c = FC
      · rw [if_pos w1, if_pos w2, decide_eq_true w2, Bool.or_true, Bool.true_and]
        exact X
      · rw [if_pos w1, if_neg w2, decide_eq_false w2, decide_eq_false (not_not_intro w1), Bool.or_false, Bool.false_and, if_neg Bool.false_ne_true, Nat.zero_add]
    · rw [if_neg w1, decide_eq_true w1, Bool.true_or, Bool.true_and]
      exact X
theorem t_cnt (hT : gw f a S.w ch = some (.inr (8, [.ref a, .ref cr, .int FR, .int FC]))) (hg : GI S) : ∀ (k d r : Nat) (bz us : Nat → Bool) (P : z_Res → Prop), r + k = S.R → k + 2 < d → z_Ca g d 74 [.ref ch, .int (nI r), .int (sS bz), .int (sS us)] (gw f a S.w, q) P = P (.inr (some (.int (nI (S.ac (fxc FR FC) k r bz us)))), (gw f a S.w, q))
  | 0, d, r, bz, us, P, h, hd => by
    have : r = S.R := by omega
    subst this
    have hC := hg.C5
    have hRC := hg.RC
    rw [zn_74]
    simp (disch := omega) only [ze_74_0, ze_74_1, ze_74_2, ze_74_5, ze_74_8, ze_74_11, ze_74_12, ze_74_13, ze_74_14, ze_74_16, ze_74_17, ze_74_21, ze_74_22, ze_74_25, ze_74_28, ze_74_31, ze_74_32, ze_74_33, ze_74_36, ze_74_39, ze_74_41, ze_74_42, ze_74_45, ze_74_48, ze_74_49, ze_74_52, ze_74_53, ze_74_55, ze_74_57, ze_74_60, ze_74_61, ze_74_62, ze_74_64, ze_74_65, ze_74_66, ze_74_69, ze_74_72, ze_74_74, ze_74_75, ze_74_76, ze_74_77, ze_74_78, ze_74_79, ze_74_80, ze_74_82, ze_74_83, ze_74_84, ze_74_85, ze_74_86, ze_74_87, ze_74_89, ze_74_92, ze_74_93, ze_74_96, ze_74_97, ze_74_99, ze_74_102, ze_74_105, ze_74_107, z_gI, z_gR, z_pF, z_aL, z_aS, z_gO, z_k_r, z_push_s, z_push_n, okS_0, okS_I, okS_R, okS_A, List.getElem?_cons_zero, List.getElem?_cons_succ, List.length_cons, List.length_nil, List.set_cons_zero, List.set_cons_succ, true_and, and_true, z_tI, z_tB, pk_mul, nI_add, cI_cl, cI_ix, arr_at, arr_upd, nar_0, nar_1, nar_b, Nat.reduceAdd, Nat.reduceLT, Nat.reduceMul, cI_lt, cI_eq, ↓reduceIte, if_true, if_false, Nat.lt_irrefl, eq_self, Nat.reduceEqDiff, or_true, true_or, or_false, not_false_eq_true, not_true_eq_false, ce_5, zb_t, zb_f, hT, pGW_A, pGW_V, pGW_B, pGW_r, pGW_c, pGW_R, pGW_C, pGW_F, pGW_G, pGW_N, pGS_c, pGS_gv, pGS_b, pGS_R, pGS_C, pGS_G, pGS_N, gw_0, gw_1, gw_2, gw_3, gw_4, gw_5, gw_u0, gw_u1, gw_u2, gw_u3, gw_u4, gw_u5, gs_A, gs_V, gs_B, gs_r, gs_c, gs_R, gs_C, gs_F, gs_G, gs_N]
    rfl
  | k + 1, d, r, bz, us, P, h, hd => by
    have hr : r < S.R := by omega
    have hC := hg.C5
    have hRC := hg.RC
    rw [zn_74]
    simp (disch := omega) only [ze_74_0, ze_74_1, ze_74_2, ze_74_5, ze_74_8, ze_74_11, ze_74_12, ze_74_13, ze_74_14, ze_74_16, ze_74_17, ze_74_21, ze_74_22, ze_74_25, ze_74_28, ze_74_31, ze_74_32, ze_74_33, ze_74_36, ze_74_39, ze_74_41, ze_74_42, ze_74_45, ze_74_48, ze_74_49, ze_74_52, ze_74_53, ze_74_55, ze_74_57, ze_74_60, ze_74_61, ze_74_62, ze_74_64, ze_74_65, ze_74_66, ze_74_69, ze_74_72, ze_74_74, ze_74_75, ze_74_76, ze_74_77, ze_74_78, ze_74_79, ze_74_80, ze_74_82, ze_74_83, ze_74_84, ze_74_85, ze_74_86, ze_74_87, ze_74_89, ze_74_92, ze_74_93, ze_74_96, ze_74_97, ze_74_99, ze_74_102, ze_74_105, ze_74_107, z_gI, z_gR, z_pF, z_aL, z_aS, z_gO, z_k_r, z_push_s, z_push_n, okS_0, okS_I, okS_R, okS_A, List.getElem?_cons_zero, List.getElem?_cons_succ, List.length_cons, List.length_nil, List.set_cons_zero, List.set_cons_succ, true_and, and_true, z_tI, z_tB, pk_mul, nI_add, cI_cl, cI_ix, arr_at, arr_upd, nar_0, nar_1, nar_b, Nat.reduceAdd, Nat.reduceLT, Nat.reduceMul, cI_lt, cI_eq, ↓reduceIte, if_true, if_false, Nat.lt_irrefl, eq_self, Nat.reduceEqDiff, or_true, true_or, or_false, not_false_eq_true, not_true_eq_false, ce_5, zb_t, zb_f, hT, pGW_A, pGW_V, pGW_B, pGW_r, pGW_c, pGW_R, pGW_C, pGW_F, pGW_G, pGW_N, pGS_c, pGS_gv, pGS_b, pGS_R, pGS_C, pGS_G, pGS_N, gw_0, gw_1, gw_2, gw_3, gw_4, gw_5, gw_u0, gw_u1, gw_u2, gw_u3, gw_u4, gw_u5, gs_A, gs_V, gs_B, gs_r, gs_c, gs_R, gs_C, gs_F, gs_G, gs_N, hr]
    rw [t_cnt1 hT hg (by omega) hr bz us (fun bz us P => t_cnt hT hg k (d - 1) (r + 1) bz us P (by omega) (by omega)) S.C 0 0 _ (by omega), Nat.zero_add]
    rfl
end
