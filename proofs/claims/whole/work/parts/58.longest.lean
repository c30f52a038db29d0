/-! transversals: the longest, on both sides -/
def lm (p : Nat → Bool) (F : Nat → Nat) : Nat → Nat → Nat → Nat
  | 0, _, m => m
  | k + 1, i, m => lm p F k (i + 1) (if p i = true then max m (1 + F i) else m)
def GS.ln (S : GS) : Nat → Nat → (Nat → Bool) → (Nat → Bool) → Nat
  | 0, _, _, _ => 0
  | k + 1, r, bz, us => lm (fun c => S.fr r c bz us) (fun c => S.ln k (r + 1) (ad bz c) (ad us (S.c (r * 5 + c)))) S.C 0 (S.ln k (r + 1) bz us)
theorem lm_le {p : Nat → Bool} {F : Nat → Nat} {B : Nat} (hF : ∀ c, F c < B) : ∀ (k i m : Nat), m ≤ B → lm p F k i m ≤ B
  | 0, _, _, h => h
  | k + 1, i, m, h => by
    unfold lm
    have := hF i
    exact lm_le hF k (i + 1) _ (by split <;> omega)
theorem ln_le {S : GS} : ∀ (k r : Nat) (bz us : Nat → Bool), S.ln k r bz us ≤ k
  | 0, _, _, _ => Nat.le_refl _
  | k + 1, r, bz, us => lm_le (fun c => by have := ln_le (S := S) k (r + 1) (ad bz c) (ad us (S.c (r * 5 + c))); omega) _ _ _ (by have := ln_le (S := S) k (r + 1) bz us; omega)
section
variable {g : z_G} {d : Nat} {f : Nat → Option z_C} {q : Option Nat × Nat × Nat} {P : z_Res → Prop} {a ch : Nat} {S : GS} {FR FC : Int32} {cr : Nat}
theorem t_lon1 (hT : gw f a S.w ch = some (.inr (8, [.ref a, .ref cr, .int FR, .int FC]))) (hg : GI S) (hd : 1 < d) {r : Nat} (hr : r < S.R) (bz us : Nat → Bool) {F : (Nat → Bool) → (Nat → Bool) → Nat} (hF : ∀ x y, F x y < 1000)
    (ih : ∀ (bz us : Nat → Bool) (P : z_Res → Prop), z_Ca g (d - 1) 76 [.ref ch, .int (nI (r + 1)), .int (sS bz), .int (sS us)] (gw f a S.w, q) P = P (.inr (some (.int (nI (F bz us)))), (gw f a S.w, q))) :
    ∀ (k c m : Nat) (v : Value), c + k = S.C → m < 2000 → z_T g d 76 27 [.ref ch, .int (nI r), .int (sS bz), .int (sS us), .int (nI m), .int (nI c), v] [] (gw f a S.w, q) P = P (.inr (some (.int (nI (lm (fun c => S.fr r c bz us) (fun c => F (ad bz c) (ad us (S.c (r * 5 + c)))) k c m)))), (gw f a S.w, q))
  | 0, c, m, v, h, hm => by
    have : c = S.C := by omega
    subst this
    have hC := hg.C5
    rw [ze_76_27]
    simp (disch := omega) only [ze_76_0, ze_76_1, ze_76_2, ze_76_5, ze_76_8, ze_76_11, ze_76_12, ze_76_13, ze_76_14, ze_76_15, ze_76_16, ze_76_17, ze_76_18, ze_76_19, ze_76_22, ze_76_24, ze_76_25, ze_76_29, ze_76_30, ze_76_33, ze_76_36, ze_76_39, ze_76_40, ze_76_41, ze_76_43, ze_76_44, ze_76_45, ze_76_48, ze_76_51, ze_76_52, ze_76_53, ze_76_54, ze_76_55, ze_76_56, ze_76_57, ze_76_59, ze_76_60, ze_76_61, ze_76_62, ze_76_63, ze_76_64, ze_76_66, ze_76_69, ze_76_70, ze_76_73, ze_76_75, ze_76_77, ze_76_78, ze_76_80, ze_76_81, ze_76_84, ze_76_86, ze_76_89, ze_76_92, ze_76_94, z_gI, z_gR, z_pF, z_aL, z_aS, z_gO, z_k_r, z_push_s, z_push_n, okS_0, okS_I, okS_R, okS_A, List.getElem?_cons_zero, List.getElem?_cons_succ, List.length_cons, List.length_nil, List.set_cons_zero, List.set_cons_succ, true_and, and_true, z_tI, z_tB, pk_mul, nI_add, cI_cl, cI_ix, arr_at, arr_upd, nar_0, nar_1, nar_b, Nat.reduceAdd, Nat.reduceLT, Nat.reduceMul, cI_lt, cI_eq, ↓reduceIte, if_true, if_false, Nat.lt_irrefl, eq_self, Nat.reduceEqDiff, or_true, true_or, or_false, not_false_eq_true, not_true_eq_false, ce_5, zb_t, zb_f, hT, pGW_A, pGW_V, pGW_B, pGW_r, pGW_c, pGW_R, pGW_C, pGW_F, pGW_G, pGW_N, pGS_c, pGS_gv, pGS_b, pGS_R, pGS_C, pGS_G, pGS_N, gw_0, gw_1, gw_2, gw_3, gw_4, gw_5, gw_u0, gw_u1, gw_u2, gw_u3, gw_u4, gw_u5, gs_A, gs_V, gs_B, gs_r, gs_c, gs_R, gs_C, gs_F, gs_G, gs_N, lm]
  | k + 1, c, m, v, h, hm => by
    have hC := hg.C5
    have hRC := hg.RC
    have hc : c < S.C := by omega
    have hd0 : 0 < d := by omega
    have hf := hF (ad bz c) (ad us (S.c (r * 5 + c)))
    rw [ze_76_27]
    unfold lm
    cases e : S.fr r c bz us
    · simp (disch := omega) only [ze_76_0, ze_76_1, ze_76_2, ze_76_5, ze_76_8, ze_76_11, ze_76_12, ze_76_13, ze_76_14, ze_76_15, ze_76_16, ze_76_17, ze_76_18, ze_76_19, ze_76_22, ze_76_24, ze_76_25, ze_76_29, ze_76_30, ze_76_33, ze_76_36, ze_76_39, ze_76_40, ze_76_41, ze_76_43, ze_76_44, ze_76_45, ze_76_48, ze_76_51, ze_76_52, ze_76_53, ze_76_54, ze_76_55, ze_76_56, ze_76_57, ze_76_59, ze_76_60, ze_76_61, ze_76_62, ze_76_63, ze_76_64, ze_76_66, ze_76_69, ze_76_70, ze_76_73, ze_76_75, ze_76_77, ze_76_78, ze_76_80, ze_76_81, ze_76_84, ze_76_86, ze_76_89, ze_76_92, ze_76_94, z_gI, z_gR, z_pF, z_aL, z_aS, z_gO, z_k_r, z_push_s, z_push_n, okS_0, okS_I, okS_R, okS_A, List.getElem?_cons_zero, List.getElem?_cons_succ, List.length_cons, List.length_nil, List.set_cons_zero, List.set_cons_succ, true_and, and_true, z_tI, z_tB, pk_mul, nI_add, cI_cl, cI_ix, arr_at, arr_upd, nar_0, nar_1, nar_b, Nat.reduceAdd, Nat.reduceLT, Nat.reduceMul, cI_lt, cI_eq, ↓reduceIte, if_true, if_false, Nat.lt_irrefl, eq_self, Nat.reduceEqDiff, or_true, true_or, or_false, not_false_eq_true, not_true_eq_false, ce_5, zb_t, zb_f, hT, pGW_A, pGW_V, pGW_B, pGW_r, pGW_c, pGW_R, pGW_C, pGW_F, pGW_G, pGW_N, pGS_c, pGS_gv, pGS_b, pGS_R, pGS_C, pGS_G, pGS_N, gw_0, gw_1, gw_2, gw_3, gw_4, gw_5, gw_u0, gw_u1, gw_u2, gw_u3, gw_u4, gw_u5, gs_A, gs_V, gs_B, gs_r, gs_c, gs_R, gs_C, gs_F, gs_G, gs_N, hc, hd0, t_free hT hg.c5, zb_0, e, Bool.false_eq_true]
      rw [t_lon1 hT hg hd hr bz us hF ih k (c + 1) m _ (by omega) hm]
    · have hok : ∀ x y : Int32, z_okS 8 [.int y, .int x] = true := fun x y => by simp only [okS_I, okS_0]
      simp (disch := first | omega | exact hok _ _) only [ze_76_0, ze_76_1, ze_76_2, ze_76_5, ze_76_8, ze_76_11, ze_76_12, ze_76_13, ze_76_14, ze_76_15, ze_76_16, ze_76_17, ze_76_18, ze_76_19, ze_76_22, ze_76_24, ze_76_25, ze_76_29, ze_76_30, ze_76_33, ze_76_36, ze_76_39, ze_76_40, ze_76_41, ze_76_43, ze_76_44, ze_76_45, ze_76_48, ze_76_51, ze_76_52, ze_76_53, ze_76_54, ze_76_55, ze_76_56, ze_76_57, ze_76_59, ze_76_60, ze_76_61, ze_76_62, ze_76_63, ze_76_64, ze_76_66, ze_76_69, ze_76_70, ze_76_73, ze_76_75, ze_76_77, ze_76_78, ze_76_80, ze_76_81, ze_76_84, ze_76_86, ze_76_89, ze_76_92, ze_76_94, z_gI, z_gR, z_pF, z_aL, z_aS, z_gO, z_k_r, z_push_s, z_push_n, okS_0, okS_I, okS_R, okS_A, List.getElem?_cons_zero, List.getElem?_cons_succ, List.length_cons, List.length_nil, List.set_cons_zero, List.set_cons_succ, true_and, and_true, z_tI, z_tB, pk_mul, nI_add, cI_cl, cI_ix, arr_at, arr_upd, nar_0, nar_1, nar_b, Nat.reduceAdd, Nat.reduceLT, Nat.reduceMul, cI_lt, cI_eq, ↓reduceIte, if_true, if_false, Nat.lt_irrefl, eq_self, Nat.reduceEqDiff, or_true, true_or, or_false, not_false_eq_true, not_true_eq_false, ce_5, zb_t, zb_f, hT, pGW_A, pGW_V, pGW_B, pGW_r, pGW_c, pGW_R, pGW_C, pGW_F, pGW_G, pGW_N, pGS_c, pGS_gv, pGS_b, pGS_R, pGS_C, pGS_G, pGS_N, gw_0, gw_1, gw_2, gw_3, gw_4, gw_5, gw_u0, gw_u1, gw_u2, gw_u3, gw_u4, gw_u5, gs_A, gs_V, gs_B, gs_r, gs_c, gs_R, gs_C, gs_F, gs_G, gs_N, hc, hd0, t_free hT hg.c5, t_bit hT hg.c5, zb_0, e, Bool.true_eq_false, sS_one, sS_or, ih]
      refine Eq.trans (congrArg (fun y => z_T g d 76 27 [.ref ch, .int (nI r), .int (sS bz), .int (sS us), .int y, .int (nI (c + 1)), .int (nI (F (ad bz c) (ad us (S.c (r * 5 + c)))))] [] (gw f a S.w, q) P) ?_) (t_lon1 hT hg hd hr bz us hF ih k (c + 1) (max m (1 + F (ad bz c) (ad us (S.c (r * 5 + c))))) _ (by omega) (by omega))
      have e1 : ∀ x : Nat, x < 2000 → (if nI m < nI x then nI x else nI m) = nI (max m x) := by
        intro x hx
        have : (nI m < nI x) = (m < x) := cI_lt (by omega) (by omega)
        simp only [this]
        split
        · congr 1; omega
        · congr 1; omega
      exact e1 (1 + F (ad bz c) (ad us (S.c (r * 5 + c)))) (by omega)
theorem t_lon (hT : gw f a S.w ch = some (.inr (8, [.ref a, .ref cr, .int FR, .int FC]))) (hg : GI S) : ∀ (k d r : Nat) (bz us : Nat → Bool) (P : z_Res → Prop), r + k = S.R → k + 2 < d → z_Ca g d 76 [.ref ch, .int (nI r), .int (sS bz), .int (sS us)] (gw f a S.w, q) P = P (.inr (some (.int (nI (S.ln k r bz us)))), (gw f a S.w, q))
  | 0, d, r, bz, us, P, h, hd => by
    have : r = S.R := by omega
    subst this
    have hC := hg.C5
    have hRC := hg.RC
    rw [zn_76]
    simp (disch := omega) only [ze_76_0, ze_76_1, ze_76_2, ze_76_5, ze_76_8, ze_76_11, ze_76_12, ze_76_13, ze_76_14, ze_76_15, ze_76_16, ze_76_17, ze_76_18, ze_76_19, ze_76_22, ze_76_24, ze_76_25, ze_76_29, ze_76_30, ze_76_33, ze_76_36, ze_76_39, ze_76_40, ze_76_41, ze_76_43, ze_76_44, ze_76_45, ze_76_48, ze_76_51, ze_76_52, ze_76_53, ze_76_54, ze_76_55, ze_76_56, ze_76_57, ze_76_59, ze_76_60, ze_76_61, ze_76_62, ze_76_63, ze_76_64, ze_76_66, ze_76_69, ze_76_70, ze_76_73, ze_76_75, ze_76_77, ze_76_78, ze_76_80, ze_76_81, ze_76_84, ze_76_86, ze_76_89, ze_76_92, ze_76_94, z_gI, z_gR, z_pF, z_aL, z_aS, z_gO, z_k_r, z_push_s, z_push_n, okS_0, okS_I, okS_R, okS_A, List.getElem?_cons_zero, List.getElem?_cons_succ, List.length_cons, List.length_nil, List.set_cons_zero, List.set_cons_succ, true_and, and_true, z_tI, z_tB, pk_mul, nI_add, cI_cl, cI_ix, arr_at, arr_upd, nar_0, nar_1, nar_b, Nat.reduceAdd, Nat.reduceLT, Nat.reduceMul, cI_lt, cI_eq, ↓reduceIte, if_true, if_false, Nat.lt_irrefl, eq_self, Nat.reduceEqDiff, or_true, true_or, or_false, not_false_eq_true, not_true_eq_false, ce_5, zb_t, zb_f, hT, pGW_A, pGW_V, pGW_B, pGW_r, pGW_c, pGW_R, pGW_C, pGW_F, pGW_G, pGW_N, pGS_c, pGS_gv, pGS_b, pGS_R, pGS_C, pGS_G, pGS_N, gw_0, gw_1, gw_2, gw_3, gw_4, gw_5, gw_u0, gw_u1, gw_u2, gw_u3, gw_u4, gw_u5, gs_A, gs_V, gs_B, gs_r, gs_c, gs_R, gs_C, gs_F, gs_G, gs_N]
    rfl
  | k + 1, d, r, bz, us, P, h, hd => by
    have hr : r < S.R := by omega
    have hC := hg.C5
    have hRC := hg.RC
    have hd0 : 0 < d := by omega
    have ih := fun (bz us : Nat → Bool) (P : z_Res → Prop) => t_lon hT hg k (d - 1) (r + 1) bz us P (by omega) (by omega)
    have hl := ln_le (S := S) k (r + 1) bz us
    rw [zn_76]
    simp (disch := omega) only [ze_76_0, ze_76_1, ze_76_2, ze_76_5, ze_76_8, ze_76_11, ze_76_12, ze_76_13, ze_76_14, ze_76_15, ze_76_16, ze_76_17, ze_76_18, ze_76_19, ze_76_22, ze_76_24, ze_76_25, ze_76_29, ze_76_30, ze_76_33, ze_76_36, ze_76_39, ze_76_40, ze_76_41, ze_76_43, ze_76_44, ze_76_45, ze_76_48, ze_76_51, ze_76_52, ze_76_53, ze_76_54, ze_76_55, ze_76_56, ze_76_57, ze_76_59, ze_76_60, ze_76_61, ze_76_62, ze_76_63, ze_76_64, ze_76_66, ze_76_69, ze_76_70, ze_76_73, ze_76_75, ze_76_77, ze_76_78, ze_76_80, ze_76_81, ze_76_84, ze_76_86, ze_76_89, ze_76_92, ze_76_94, z_gI, z_gR, z_pF, z_aL, z_aS, z_gO, z_k_r, z_push_s, z_push_n, okS_0, okS_I, okS_R, okS_A, List.getElem?_cons_zero, List.getElem?_cons_succ, List.length_cons, List.length_nil, List.set_cons_zero, List.set_cons_succ, true_and, and_true, z_tI, z_tB, pk_mul, nI_add, cI_cl, cI_ix, arr_at, arr_upd, nar_0, nar_1, nar_b, Nat.reduceAdd, Nat.reduceLT, Nat.reduceMul, cI_lt, cI_eq, ↓reduceIte, if_true, if_false, Nat.lt_irrefl, eq_self, Nat.reduceEqDiff, or_true, true_or, or_false, not_false_eq_true, not_true_eq_false, ce_5, zb_t, zb_f, hT, pGW_A, pGW_V, pGW_B, pGW_r, pGW_c, pGW_R, pGW_C, pGW_F, pGW_G, pGW_N, pGS_c, pGS_gv, pGS_b, pGS_R, pGS_C, pGS_G, pGS_N, gw_0, gw_1, gw_2, gw_3, gw_4, gw_5, gw_u0, gw_u1, gw_u2, gw_u3, gw_u4, gw_u5, gs_A, gs_V, gs_B, gs_r, gs_c, gs_R, gs_C, gs_F, gs_G, gs_N, hr, hd0, ih]
    rw [t_lon1 hT hg (by omega) hr bz us (F := fun x y => S.ln k (r + 1) x y) (fun x y => by have := ln_le (S := S) k (r + 1) x y; show S.ln k (r + 1) x y < 1000; omega) ih S.C 0 _ _ (by omega) (by omega)]
    rfl
end
