/-! transversals: how many, the longest -/
def GS.fr (S : GS) (r c : Nat) (bz us : Nat → Bool) : Bool := !decide (S.c (r * 5 + c) = 5) && !bz c && !us (S.c (r * 5 + c))
def ad (p : Nat → Bool) (c : Nat) : Nat → Bool := fun x => p x || decide (x = c)
def GS.ac (S : GS) (fx : Nat → Nat → Bool) : Nat → Nat → (Nat → Bool) → (Nat → Bool) → Nat
  | 0, _, _, _ => 1
  | k + 1, r, bz, us => sm (fun c => if (fx r c && S.fr r c bz us) = true then S.ac fx k (r + 1) (ad bz c) (ad us (S.c (r * 5 + c))) else 0) 0 S.C
theorem bit_0 {x : Nat} (h : x ≤ 5) : (sS (fun t => decide (t = x)) = nI 0) = (x = 5) := by
  rw [sS_eq0]
  refine propext ⟨fun z => ?_, fun z t ht => decide_eq_false (by omega)⟩
  apply Classical.byContradiction
  intro e
  have := z x (by omega)
  rw [decide_eq_true rfl] at this
  cases this
theorem bit_and {u : Nat → Bool} {x : Nat} (h : x < 5) : (sS (fun t => u t && decide (t = x)) = nI 0) = (u x = false) := by
  rw [sS_eq0]
  refine propext ⟨fun z => ?_, fun z t ht => ?_⟩
  · have := z x h
    rw [decide_eq_true rfl, Bool.and_true] at this
    exact this
  · by_cases e : t = x
    · rw [e, z, Bool.false_and]
    · rw [decide_eq_false e, Bool.and_false]
section
variable {g : z_G} {d : Nat} {f : Nat → Option z_C} {q : Option Nat × Nat × Nat} {P : z_Res → Prop} {a ch : Nat} {S : GS} {FR FC : Int32} {cr : Nat}
theorem t_bit (hT : gw f a S.w ch = some (.inr (8, [.ref a, .ref cr, .int FR, .int FC]))) (hc : ∀ k, S.c k ≤ 5) {r c : Nat} (hr : r < 5) (hj : c < 5) : z_Ca g d 78 [.ref ch, .int (nI r), .int (nI c)] (gw f a S.w, q) P = P (.inr (some (.int (sS fun t => decide (t = S.c (r * 5 + c))))), (gw f a S.w, q)) := by
  have e5 := ce_em (hc (r * 5 + c))
  rw [zn_78]
  simp (disch := omega) only [ze_78_0, ze_78_1, ze_78_4, ze_78_7, ze_78_8, ze_78_9, ze_78_10, ze_78_11, ze_78_12, ze_78_13, ze_78_14, ze_78_15, ze_78_16, ze_78_19, ze_78_20, ze_78_23, ze_78_24, ze_78_25, ze_78_26, z_gI, z_gR, z_pF, z_aL, z_aS, z_gO, z_k_r, z_push_s, z_push_n, okS_0, okS_I, okS_R, okS_A, List.getElem?_cons_zero, List.getElem?_cons_succ, List.length_cons, List.length_nil, List.set_cons_zero, List.set_cons_succ, true_and, and_true, z_tI, z_tB, pk_mul, nI_add, cI_cl, cI_ix, arr_at, arr_upd, nar_0, nar_1, nar_b, Nat.reduceAdd, Nat.reduceLT, Nat.reduceMul, cI_lt, cI_eq, ↓reduceIte, if_true, if_false, Nat.lt_irrefl, eq_self, Nat.reduceEqDiff, or_true, true_or, or_false, not_false_eq_true, not_true_eq_false, ce_5, zb_t, zb_f, hT, pGW_A, pGW_V, pGW_B, pGW_r, pGW_c, pGW_R, pGW_C, pGW_F, pGW_G, pGW_N, pGS_c, pGS_gv, pGS_b, pGS_R, pGS_C, pGS_G, pGS_N, gw_0, gw_1, gw_2, gw_3, gw_4, gw_5, gw_u0, gw_u1, gw_u2, gw_u3, gw_u4, gw_u5, gs_A, gs_V, gs_B, gs_r, gs_c, gs_R, gs_C, gs_F, gs_G, gs_N, e5]
  by_cases e : S.c (r * 5 + c) = 5
  · simp (disch := omega) only [e, cI_lt, cI_eq, ↓reduceIte, if_true, if_false, Nat.lt_irrefl, eq_self, Nat.reduceEqDiff, or_true, true_or, or_false, not_false_eq_true, not_true_eq_false, ce_5, zb_t, zb_f]
    rw [sS_0, sS_congr]
    intro t ht
    exact (decide_eq_false (by omega)).symm
  · have hs : S.c (r * 5 + c) < 5 := by have := hc (r * 5 + c); omega
    simp (disch := omega) only [e, cI_lt, cI_eq, ↓reduceIte, if_true, if_false, Nat.lt_irrefl, eq_self, Nat.reduceEqDiff, or_true, true_or, or_false, not_false_eq_true, not_true_eq_false, ce_5, zb_t, zb_f, ce_lt hs, sS_one]
theorem t_free (hT : gw f a S.w ch = some (.inr (8, [.ref a, .ref cr, .int FR, .int FC]))) (hc : ∀ k, S.c k ≤ 5) (hd : 0 < d) {r c : Nat} (hr : r < 5) (hj : c < 5) (bz us : Nat → Bool) : z_Ca g d 77 [.ref ch, .int (nI r), .int (nI c), .int (sS bz), .int (sS us)] (gw f a S.w, q) P = P (.inr (some (.int (zb (S.fr r c bz us)))), (gw f a S.w, q)) := by
  rw [zn_77]
  simp (disch := omega) only [ze_77_0, ze_77_1, ze_77_2, ze_77_3, ze_77_6, ze_77_8, ze_77_10, ze_77_13, ze_77_14, ze_77_15, ze_77_16, ze_77_17, ze_77_18, ze_77_21, ze_77_23, ze_77_25, ze_77_26, ze_77_29, ze_77_30, ze_77_33, ze_77_34, z_gI, z_gR, z_pF, z_aL, z_aS, z_gO, z_k_r, z_push_s, z_push_n, okS_0, okS_I, okS_R, okS_A, List.getElem?_cons_zero, List.getElem?_cons_succ, List.length_cons, List.length_nil, List.set_cons_zero, List.set_cons_succ, true_and, and_true, z_tI, z_tB, pk_mul, nI_add, cI_cl, cI_ix, arr_at, arr_upd, nar_0, nar_1, nar_b, Nat.reduceAdd, Nat.reduceLT, Nat.reduceMul, cI_lt, cI_eq, ↓reduceIte, if_true, if_false, Nat.lt_irrefl, eq_self, Nat.reduceEqDiff, or_true, true_or, or_false, not_false_eq_true, not_true_eq_false, ce_5, zb_t, zb_f, hT, t_bit hT hc, hd, bit_0 (hc _), sS_bit, zb_0, sS_and]
  unfold GS.fr
  by_cases e : S.c (r * 5 + c) = 5
  · simp (disch := omega) only [e, cI_lt, cI_eq, ↓reduceIte, if_true, if_false, Nat.lt_irrefl, eq_self, Nat.reduceEqDiff, or_true, true_or, or_false, not_false_eq_true, not_true_eq_false, ce_5, zb_t, zb_f, decide_true, Bool.not_true, Bool.false_and]
  · have hs : S.c (r * 5 + c) < 5 := by have := hc (r * 5 + c); omega
    simp (disch := omega) only [e, cI_lt, cI_eq, ↓reduceIte, if_true, if_false, Nat.lt_irrefl, eq_self, Nat.reduceEqDiff, or_true, true_or, or_false, not_false_eq_true, not_true_eq_false, ce_5, zb_t, zb_f, decide_false, Bool.not_false, Bool.true_and, bit_and hs]
    cases e1 : bz c <;> cases e2 : us (S.c (r * 5 + c)) <;> simp [zb, cI_eq]
def fxc (FR FC : Int32) (r c : Nat) : Bool := decide (¬ nI r = FR) || decide (nI c = FC)
end
