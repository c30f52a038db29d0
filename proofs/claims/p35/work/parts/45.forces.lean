/-! what is forced -/
def GS.eR (S : GS) (r j : Nat) : Nat → Bool := fun s => S.cd r j s && !anyB (fun x => decide (x ≠ j) && S.cd r x s) S.C
def GS.eC (S : GS) (r j : Nat) : Nat → Bool := fun s => S.cd r j s && !anyB (fun x => decide (x ≠ r) && S.cd x j s) S.R
def GS.rs (S : GS) (r j : Nat) : Nat := if pop (S.cd r j) = 1 then 1 else if low (S.eR r j) ≠ 5 then 2 else if S.R = S.C ∧ low (S.eC r j) ≠ 5 then 3 else 0
def GS.fb (S : GS) (r j : Nat) : Nat → Bool := if S.rs r j = 1 then S.cd r j else if S.rs r j = 2 then S.eR r j else S.eC r j
def GS.fs (S : GS) (r j : Nat) : Nat := low (S.fb r j)
theorem low_5 {p : Nat → Bool} : low p = 5 ↔ ∀ s, s < 5 → p s = false := by
  constructor
  · intro h s hs
    have z : ∀ a b c d e : Bool, (if a then 0 else if b then 1 else if c then 2 else if d then 3 else if e then 4 else 5) = 5 → a = false ∧ b = false ∧ c = false ∧ d = false ∧ e = false := by decide
    obtain ⟨h0, h1, h2, h3, h4⟩ := z _ _ _ _ _ h
    rcases five hs with rfl | rfl | rfl | rfl | rfl <;> assumption
  · intro h
    unfold low
    simp [h 0 (by omega), h 1 (by omega), h 2 (by omega), h 3 (by omega), h 4 (by omega)]
theorem sS_low {p : Nat → Bool} : (sS p = nI 0) = (low p = 5) := by
  rw [sS_eq0]
  exact propext low_5.symm
theorem pop_low {p : Nat → Bool} (h : pop p ≠ 0) : low p ≠ 5 := by
  intro e
  have z := low_5.mp e
  unfold pop at h
  rw [z 0 (by omega), z 1 (by omega), z 2 (by omega), z 3 (by omega), z 4 (by omega)] at h
  exact h rfl
/-- the place of a number among the cells that have p -/
def kf (p : Nat → Bool) (x : Int32) : Nat → Nat → Nat → Option Nat
  | _, 0, _ => none
  | i, k + 1, n => if p i = true then (if x = nI n then some i else kf p x (i + 1) k (n + 1)) else kf p x (i + 1) k n
def on (o : Option Nat) : Int32 := match o with
  | some i => nI i
  | none => -1
theorem kf_skip {p : Nat → Bool} {x : Int32} : ∀ (m k i n : Nat), (∀ j, i ≤ j → j < i + m → p j = false) → kf p x i (m + k) n = kf p x (i + m) k n
  | 0, k, i, n, h => by rw [Nat.zero_add, Nat.add_zero]
  | m + 1, k, i, n, h => by
    rw [show m + 1 + k = (m + k) + 1 by omega]
    unfold kf
    rw [if_neg (by rw [h i (Nat.le_refl _) (by omega)]; exact Bool.false_ne_true), kf_skip m k (i + 1) n (fun j h1 h2 => h j (by omega) (by omega))]
    cases k
    · unfold kf; rfl
    · rw [show i + (m + 1) = i + 1 + m by omega]
      rfl
theorem kf_none {p : Nat → Bool} {x : Int32} : ∀ (k i n : Nat), (∀ j, i ≤ j → j < i + k → p j = false) → kf p x i k n = none
  | 0, i, n, h => rfl
  | k + 1, i, n, h => by
    unfold kf
    rw [if_neg (by rw [h i (Nat.le_refl _) (by omega)]; exact Bool.false_ne_true)]
    exact kf_none k (i + 1) n (fun j h1 h2 => h j (by omega) (by omega))
theorem sub_nI {x : Int32} {n : Nat} : (x - nI n = nI 0) = (x = nI n) := by
  refine propext ⟨fun h => ?_, fun h => ?_⟩
  · have : x - nI n + nI n = nI 0 + nI n := by rw [h]
    rw [Int32.sub_add_cancel] at this
    rw [this, nI_add, Nat.zero_add]
  · rw [h, Int32.sub_self]
    rfl
theorem sub_nI1 {x : Int32} {n : Nat} : x - nI n + -1 = x - nI (n + 1) := by
  have : nI (n + 1) = nI n + nI 1 := (nI_add n 1).symm
  rw [this]
  rw [Int32.sub_eq_add_neg, Int32.sub_eq_add_neg x (nI n + nI 1), Int32.neg_add, Int32.add_assoc, Int32.sub_eq_add_neg (-nI n)]
  rfl
theorem sub_nI0 {x : Int32} : x - nI 0 = x := Int32.sub_zero x
section
variable {g : z_G} {d : Nat} {f : Nat → Option z_C} {h : z_H} {q : Option Nat × Nat × Nat} {P : z_Res → Prop} {a fo : Nat} {S : GS}
theorem s_bitCount (p : Nat → Bool) : z_Ca g d 121 [.int (sS p)] h P = P (.inr (some (.int (nI (pop p)))), h) := by
  rw [zn_121]
  simp (disch := omega) only [ze_121_0, ze_121_1, ze_121_2, ze_121_3, ze_121_4, ze_121_7, ze_121_8, ze_121_9, ze_121_10, ze_121_11, ze_121_14, ze_121_15, ze_121_16, ze_121_17, ze_121_18, ze_121_21, ze_121_22, ze_121_23, ze_121_24, ze_121_25, ze_121_26, ze_121_27, ze_121_28, ze_121_29, ze_121_32, ze_121_33, ze_121_34, ze_121_35, ze_121_36, ze_121_38, ze_121_39, ze_121_40, ze_121_41, ze_121_42, ze_121_43, ze_121_45, ze_121_46, ze_121_47, ze_121_48, ze_121_49, ze_121_51, ze_121_52, z_gI, z_gR, z_pF, z_aL, z_aS, z_gO, z_k_r, z_push_s, z_push_n, okS_0, okS_I, okS_R, okS_A, List.getElem?_cons_zero, List.getElem?_cons_succ, List.length_cons, List.length_nil, List.set_cons_zero, List.set_cons_succ, true_and, and_true, z_tI, z_tB, pk_mul, nI_add, cI_cl, cI_ix, arr_at, arr_upd, nar_0, nar_1, nar_b, Nat.reduceAdd, Nat.reduceLT, Nat.reduceMul]
  congr 5
  rw [← popc_m5]
  unfold sS
  have h := m5_lt p
  generalize m5 p = k at h ⊢
  revert h
  revert k
  decide +kernel
theorem s_elseR (hF : gw f a S.w fo = some (.inr (2, [.ref a]))) (hc : ∀ k, S.c k ≤ 5) (hC : S.C ≤ 5) (hd : 0 < d) {r j : Nat} (hr : r < 5) (hj : j < 5) : ∀ (k i : Nat), i + k = S.C → z_T g d 21 5 [.ref fo, .int (nI r), .int (nI j), .int (sS fun s => anyB (fun x => decide (x ≠ j) && S.cd r x s) i), .int (nI i)] [] (gw f a S.w, q) P = P (.inr (some (.int (sS fun s => anyB (fun x => decide (x ≠ j) && S.cd r x s) S.C))), (gw f a S.w, q))
  | 0, i, h => by
    have : i = S.C := by omega
    subst this
    rw [ze_21_5]
    simp (disch := omega) only [ze_21_0, ze_21_1, ze_21_2, ze_21_3, ze_21_7, ze_21_8, ze_21_11, ze_21_14, ze_21_17, ze_21_19, ze_21_20, ze_21_23, ze_21_24, ze_21_25, ze_21_28, ze_21_29, ze_21_31, ze_21_34, ze_21_35, ze_21_36, ze_21_39, ze_21_42, ze_21_43, z_gI, z_gR, z_pF, z_aL, z_aS, z_gO, z_k_r, z_push_s, z_push_n, okS_0, okS_I, okS_R, okS_A, List.getElem?_cons_zero, List.getElem?_cons_succ, List.length_cons, List.length_nil, List.set_cons_zero, List.set_cons_succ, true_and, and_true, z_tI, z_tB, pk_mul, nI_add, cI_cl, cI_ix, arr_at, arr_upd, nar_0, nar_1, nar_b, Nat.reduceAdd, Nat.reduceLT, Nat.reduceMul, cI_lt, cI_eq, if_true, if_false, Nat.lt_irrefl, eq_self, Nat.reduceEqDiff, or_true, true_or, or_false, not_false_eq_true, not_true_eq_false, ce_5, zb_t, zb_f, hF, pGW_A, pGW_V, pGW_B, pGW_r, pGW_c, pGW_R, pGW_C, pGW_F, pGW_G, pGW_N, pGS_c, pGS_gv, pGS_b, pGS_R, pGS_C, pGS_G, pGS_N, gw_0, gw_1, gw_2, gw_3, gw_4, gw_5, gw_u0, gw_u1, gw_u2, gw_u3, gw_u4, gw_u5, gs_A, gs_V, gs_B, gs_r, gs_c, gs_R, gs_C, gs_F, gs_G, gs_N]
  | k + 1, i, h => by
    have hi : i < S.C := by omega
    rw [ze_21_5, ← s_elseR hF hc hC hd hr hj k (i + 1) (by omega)]
    simp (disch := omega) only [ze_21_0, ze_21_1, ze_21_2, ze_21_3, ze_21_7, ze_21_8, ze_21_11, ze_21_14, ze_21_17, ze_21_19, ze_21_20, ze_21_23, ze_21_24, ze_21_25, ze_21_28, ze_21_29, ze_21_31, ze_21_34, ze_21_35, ze_21_36, ze_21_39, ze_21_42, ze_21_43, z_gI, z_gR, z_pF, z_aL, z_aS, z_gO, z_k_r, z_push_s, z_push_n, okS_0, okS_I, okS_R, okS_A, List.getElem?_cons_zero, List.getElem?_cons_succ, List.length_cons, List.length_nil, List.set_cons_zero, List.set_cons_succ, true_and, and_true, z_tI, z_tB, pk_mul, nI_add, cI_cl, cI_ix, arr_at, arr_upd, nar_0, nar_1, nar_b, Nat.reduceAdd, Nat.reduceLT, Nat.reduceMul, cI_lt, cI_eq, if_true, if_false, Nat.lt_irrefl, eq_self, Nat.reduceEqDiff, or_true, true_or, or_false, not_false_eq_true, not_true_eq_false, ce_5, zb_t, zb_f, hF, pGW_A, pGW_V, pGW_B, pGW_r, pGW_c, pGW_R, pGW_C, pGW_F, pGW_G, pGW_N, pGS_c, pGS_gv, pGS_b, pGS_R, pGS_C, pGS_G, pGS_N, gw_0, gw_1, gw_2, gw_3, gw_4, gw_5, gw_u0, gw_u1, gw_u2, gw_u3, gw_u4, gw_u5, gs_A, gs_V, gs_B, gs_r, gs_c, gs_R, gs_C, gs_F, gs_G, gs_N, hi, s_cand hc hC, hd]
    by_cases e : i = j
    · simp only [e, if_true, not_true_eq_false, if_false]
      rw [sS_congr (q := fun s => anyB (fun x => decide (x ≠ j) && S.cd r x s) (j + 1))]
      intro s hs
      rw [anyB_s]
      simp
    · simp (disch := omega) only [e, if_true, not_false_eq_true, if_false, sS_or, z_gI, z_gR, z_pF, z_aL, z_aS, z_gO, z_k_r, z_push_s, z_push_n, okS_0, okS_I, okS_R, okS_A, List.getElem?_cons_zero, List.getElem?_cons_succ, List.length_cons, List.length_nil, List.set_cons_zero, List.set_cons_succ, true_and, and_true, z_tI, z_tB, pk_mul, nI_add, cI_cl, cI_ix, arr_at, arr_upd, nar_0, nar_1, nar_b, Nat.reduceAdd, Nat.reduceLT, Nat.reduceMul, ze_21_0, ze_21_1, ze_21_2, ze_21_3, ze_21_7, ze_21_8, ze_21_11, ze_21_14, ze_21_17, ze_21_19, ze_21_20, ze_21_23, ze_21_24, ze_21_25, ze_21_28, ze_21_29, ze_21_31, ze_21_34, ze_21_35, ze_21_36, ze_21_39, ze_21_42, ze_21_43]
      rw [sS_congr (q := fun s => anyB (fun x => decide (x ≠ j) && S.cd r x s) (i + 1))]
      intro s hs
      rw [anyB_s]
      simp [e]
theorem s_elseC (hF : gw f a S.w fo = some (.inr (2, [.ref a]))) (hc : ∀ k, S.c k ≤ 5) (hC : S.C ≤ 5) (hR : S.R ≤ 5) (hd : 0 < d) {r j : Nat} (hr : r < 5) (hj : j < 5) : ∀ (k i : Nat), i + k = S.R → z_T g d 22 5 [.ref fo, .int (nI r), .int (nI j), .int (sS fun s => anyB (fun x => decide (x ≠ r) && S.cd x j s) i), .int (nI i)] [] (gw f a S.w, q) P = P (.inr (some (.int (sS fun s => anyB (fun x => decide (x ≠ r) && S.cd x j s) S.R))), (gw f a S.w, q))
  | 0, i, h => by
    have : i = S.R := by omega
    subst this
    rw [ze_22_5]
    simp (disch := omega) only [ze_22_0, ze_22_1, ze_22_2, ze_22_3, ze_22_7, ze_22_8, ze_22_11, ze_22_14, ze_22_17, ze_22_19, ze_22_20, ze_22_23, ze_22_24, ze_22_25, ze_22_28, ze_22_30, ze_22_31, ze_22_34, ze_22_35, ze_22_36, ze_22_39, ze_22_42, ze_22_43, z_gI, z_gR, z_pF, z_aL, z_aS, z_gO, z_k_r, z_push_s, z_push_n, okS_0, okS_I, okS_R, okS_A, List.getElem?_cons_zero, List.getElem?_cons_succ, List.length_cons, List.length_nil, List.set_cons_zero, List.set_cons_succ, true_and, and_true, z_tI, z_tB, pk_mul, nI_add, cI_cl, cI_ix, arr_at, arr_upd, nar_0, nar_1, nar_b, Nat.reduceAdd, Nat.reduceLT, Nat.reduceMul, cI_lt, cI_eq, if_true, if_false, Nat.lt_irrefl, eq_self, Nat.reduceEqDiff, or_true, true_or, or_false, not_false_eq_true, not_true_eq_false, ce_5, zb_t, zb_f, hF, pGW_A, pGW_V, pGW_B, pGW_r, pGW_c, pGW_R, pGW_C, pGW_F, pGW_G, pGW_N, pGS_c, pGS_gv, pGS_b, pGS_R, pGS_C, pGS_G, pGS_N, gw_0, gw_1, gw_2, gw_3, gw_4, gw_5, gw_u0, gw_u1, gw_u2, gw_u3, gw_u4, gw_u5, gs_A, gs_V, gs_B, gs_r, gs_c, gs_R, gs_C, gs_F, gs_G, gs_N]
  | k + 1, i, h => by
    have hi : i < S.R := by omega
    rw [ze_22_5, ← s_elseC hF hc hC hR hd hr hj k (i + 1) (by omega)]
    simp (disch := omega) only [ze_22_0, ze_22_1, ze_22_2, ze_22_3, ze_22_7, ze_22_8, ze_22_11, ze_22_14, ze_22_17, ze_22_19, ze_22_20, ze_22_23, ze_22_24, ze_22_25, ze_22_28, ze_22_30, ze_22_31, ze_22_34, ze_22_35, ze_22_36, ze_22_39, ze_22_42, ze_22_43, z_gI, z_gR, z_pF, z_aL, z_aS, z_gO, z_k_r, z_push_s, z_push_n, okS_0, okS_I, okS_R, okS_A, List.getElem?_cons_zero, List.getElem?_cons_succ, List.length_cons, List.length_nil, List.set_cons_zero, List.set_cons_succ, true_and, and_true, z_tI, z_tB, pk_mul, nI_add, cI_cl, cI_ix, arr_at, arr_upd, nar_0, nar_1, nar_b, Nat.reduceAdd, Nat.reduceLT, Nat.reduceMul, cI_lt, cI_eq, if_true, if_false, Nat.lt_irrefl, eq_self, Nat.reduceEqDiff, or_true, true_or, or_false, not_false_eq_true, not_true_eq_false, ce_5, zb_t, zb_f, hF, pGW_A, pGW_V, pGW_B, pGW_r, pGW_c, pGW_R, pGW_C, pGW_F, pGW_G, pGW_N, pGS_c, pGS_gv, pGS_b, pGS_R, pGS_C, pGS_G, pGS_N, gw_0, gw_1, gw_2, gw_3, gw_4, gw_5, gw_u0, gw_u1, gw_u2, gw_u3, gw_u4, gw_u5, gs_A, gs_V, gs_B, gs_r, gs_c, gs_R, gs_C, gs_F, gs_G, gs_N, hi, s_cand hc hC, hd]
    by_cases e : i = r
    · simp only [e, if_true, not_true_eq_false, if_false]
      rw [sS_congr (q := fun s => anyB (fun x => decide (x ≠ r) && S.cd x j s) (r + 1))]
      intro s hs
      rw [anyB_s]
      simp
    · simp (disch := omega) only [e, if_true, not_false_eq_true, if_false, sS_or, z_gI, z_gR, z_pF, z_aL, z_aS, z_gO, z_k_r, z_push_s, z_push_n, okS_0, okS_I, okS_R, okS_A, List.getElem?_cons_zero, List.getElem?_cons_succ, List.length_cons, List.length_nil, List.set_cons_zero, List.set_cons_succ, true_and, and_true, z_tI, z_tB, pk_mul, nI_add, cI_cl, cI_ix, arr_at, arr_upd, nar_0, nar_1, nar_b, Nat.reduceAdd, Nat.reduceLT, Nat.reduceMul, ze_22_0, ze_22_1, ze_22_2, ze_22_3, ze_22_7, ze_22_8, ze_22_11, ze_22_14, ze_22_17, ze_22_19, ze_22_20, ze_22_23, ze_22_24, ze_22_25, ze_22_28, ze_22_30, ze_22_31, ze_22_34, ze_22_35, ze_22_36, ze_22_39, ze_22_42, ze_22_43]
      rw [sS_congr (q := fun s => anyB (fun x => decide (x ≠ r) && S.cd x j s) (i + 1))]
      intro s hs
      rw [anyB_s]
      simp [e]
/-- the symbols by a reason -/
def GS.br (S : GS) (r j n : Nat) : Nat → Bool := if n = 1 then (if pop (S.cd r j) = 1 then S.cd r j else fun _ => false) else if n = 2 then S.eR r j else if S.R = S.C then S.eC r j else fun _ => false
theorem s_bits (hF : gw f a S.w fo = some (.inr (2, [.ref a]))) (hc : ∀ k, S.c k ≤ 5) (hC : S.C ≤ 5) (hR : S.R ≤ 5) (hd : 1 < d) {r j n : Nat} (hr : r < 5) (hj : j < 5) (hn : n < 10) : z_Ca g d 20 [.ref fo, .int (nI r), .int (nI j), .int (nI n)] (gw f a S.w, q) P = P (.inr (some (.int (sS (S.br r j n)))), (gw f a S.w, q)) := by
  have hd0 : 0 < d := by omega
  have hp : pop (S.cd r j) < 10 := by
    have : ∀ b : Bool, b.toNat ≤ 1 := by decide
    have h0 := this (S.cd r j 0)
    have h1 := this (S.cd r j 1)
    have h2 := this (S.cd r j 2)
    have h3 := this (S.cd r j 3)
    have h4 := this (S.cd r j 4)
    unfold pop
    omega
  have l1 := fun P => s_elseR (g := g) (d := d - 1) (f := f) (q := q) (P := P) (a := a) (fo := fo) (S := S) hF hc hC (by omega) hr hj S.C 0 (by omega)
  have l2 := fun P => s_elseC (g := g) (d := d - 1) (f := f) (q := q) (P := P) (a := a) (fo := fo) (S := S) hF hc hC hR (by omega) hr hj S.R 0 (by omega)
  simp only [anyB_z, ← sS_0] at l1 l2
  rw [zn_20]
  simp (disch := omega) only [ze_20_0, ze_20_1, ze_20_4, ze_20_5, ze_20_6, ze_20_9, ze_20_11, ze_20_12, ze_20_13, ze_20_16, ze_20_18, ze_20_21, ze_20_22, ze_20_25, ze_20_27, ze_20_30, ze_20_31, ze_20_32, ze_20_33, ze_20_34, ze_20_37, ze_20_39, ze_20_40, ze_20_41, ze_20_42, ze_20_45, ze_20_46, ze_20_47, ze_20_48, ze_20_49, ze_20_50, ze_20_53, ze_20_56, ze_20_57, ze_20_60, ze_20_63, ze_20_66, ze_20_68, ze_20_69, ze_20_70, ze_20_71, ze_20_74, ze_20_75, ze_20_76, ze_20_77, ze_20_80, ze_20_81, z_gI, z_gR, z_pF, z_aL, z_aS, z_gO, z_k_r, z_push_s, z_push_n, okS_0, okS_I, okS_R, okS_A, List.getElem?_cons_zero, List.getElem?_cons_succ, List.length_cons, List.length_nil, List.set_cons_zero, List.set_cons_succ, true_and, and_true, z_tI, z_tB, pk_mul, nI_add, cI_cl, cI_ix, arr_at, arr_upd, nar_0, nar_1, nar_b, Nat.reduceAdd, Nat.reduceLT, Nat.reduceMul, cI_lt, cI_eq, if_true, if_false, Nat.lt_irrefl, eq_self, Nat.reduceEqDiff, or_true, true_or, or_false, not_false_eq_true, not_true_eq_false, ce_5, zb_t, zb_f, hF, pGW_A, pGW_V, pGW_B, pGW_r, pGW_c, pGW_R, pGW_C, pGW_F, pGW_G, pGW_N, pGS_c, pGS_gv, pGS_b, pGS_R, pGS_C, pGS_G, pGS_N, gw_0, gw_1, gw_2, gw_3, gw_4, gw_5, gw_u0, gw_u1, gw_u2, gw_u3, gw_u4, gw_u5, gs_A, gs_V, gs_B, gs_r, gs_c, gs_R, gs_C, gs_F, gs_G, gs_N, s_cand hc hC, hd0, s_bitCount]
  unfold GS.br
  by_cases e1 : n = 1
  · simp (disch := omega) only [e1, if_true, not_true_eq_false, if_false, s_bitCount, z_gI, z_gR, z_pF, z_aL, z_aS, z_gO, z_k_r, z_push_s, z_push_n, okS_0, okS_I, okS_R, okS_A, List.getElem?_cons_zero, List.getElem?_cons_succ, List.length_cons, List.length_nil, List.set_cons_zero, List.set_cons_succ, true_and, and_true, z_tI, z_tB, pk_mul, nI_add, cI_cl, cI_ix, arr_at, arr_upd, nar_0, nar_1, nar_b, Nat.reduceAdd, Nat.reduceLT, Nat.reduceMul, cI_lt, cI_eq, if_true, if_false, Nat.lt_irrefl, eq_self, Nat.reduceEqDiff, or_true, true_or, or_false, not_false_eq_true, not_true_eq_false, ce_5, zb_t, zb_f, ze_20_0, ze_20_1, ze_20_4, ze_20_5, ze_20_6, ze_20_9, ze_20_11, ze_20_12, ze_20_13, ze_20_16, ze_20_18, ze_20_21, ze_20_22, ze_20_25, ze_20_27, ze_20_30, ze_20_31, ze_20_32, ze_20_33, ze_20_34, ze_20_37, ze_20_39, ze_20_40, ze_20_41, ze_20_42, ze_20_45, ze_20_46, ze_20_47, ze_20_48, ze_20_49, ze_20_50, ze_20_53, ze_20_56, ze_20_57, ze_20_60, ze_20_63, ze_20_66, ze_20_68, ze_20_69, ze_20_70, ze_20_71, ze_20_74, ze_20_75, ze_20_76, ze_20_77, ze_20_80, ze_20_81]
    by_cases e : pop (S.cd r j) = 1
    · simp (disch := omega) only [e, if_true, not_true_eq_false, if_false]
    · simp (disch := omega) only [e, if_true, not_false_eq_true, if_false, sS_0]
  · by_cases e2 : n = 2
    · simp (disch := omega) only [e1, e2, if_true, not_true_eq_false, not_false_eq_true, if_false, zn_21, ze_21_0, ze_21_1, ze_21_2, ze_21_3, ze_21_7, ze_21_8, ze_21_11, ze_21_14, ze_21_17, ze_21_19, ze_21_20, ze_21_23, ze_21_24, ze_21_25, ze_21_28, ze_21_29, ze_21_31, ze_21_34, ze_21_35, ze_21_36, ze_21_39, ze_21_42, ze_21_43, z_gI, z_gR, z_pF, z_aL, z_aS, z_gO, z_k_r, z_push_s, z_push_n, okS_0, okS_I, okS_R, okS_A, List.getElem?_cons_zero, List.getElem?_cons_succ, List.length_cons, List.length_nil, List.set_cons_zero, List.set_cons_succ, true_and, and_true, z_tI, z_tB, pk_mul, nI_add, cI_cl, cI_ix, arr_at, arr_upd, nar_0, nar_1, nar_b, Nat.reduceAdd, Nat.reduceLT, Nat.reduceMul, cI_lt, cI_eq, if_true, if_false, Nat.lt_irrefl, eq_self, Nat.reduceEqDiff, or_true, true_or, or_false, not_false_eq_true, not_true_eq_false, ce_5, zb_t, zb_f, l1, ze_20_0, ze_20_1, ze_20_4, ze_20_5, ze_20_6, ze_20_9, ze_20_11, ze_20_12, ze_20_13, ze_20_16, ze_20_18, ze_20_21, ze_20_22, ze_20_25, ze_20_27, ze_20_30, ze_20_31, ze_20_32, ze_20_33, ze_20_34, ze_20_37, ze_20_39, ze_20_40, ze_20_41, ze_20_42, ze_20_45, ze_20_46, ze_20_47, ze_20_48, ze_20_49, ze_20_50, ze_20_53, ze_20_56, ze_20_57, ze_20_60, ze_20_63, ze_20_66, ze_20_68, ze_20_69, ze_20_70, ze_20_71, ze_20_74, ze_20_75, ze_20_76, ze_20_77, ze_20_80, ze_20_81, sS_andn]
      rfl
    · by_cases e3 : S.R = S.C
      · simp (disch := omega) only [e1, e2, if_pos e3, if_neg (not_not_intro e3), if_true, not_true_eq_false, not_false_eq_true, if_false, zn_22, ze_22_0, ze_22_1, ze_22_2, ze_22_3, ze_22_7, ze_22_8, ze_22_11, ze_22_14, ze_22_17, ze_22_19, ze_22_20, ze_22_23, ze_22_24, ze_22_25, ze_22_28, ze_22_30, ze_22_31, ze_22_34, ze_22_35, ze_22_36, ze_22_39, ze_22_42, ze_22_43, z_gI, z_gR, z_pF, z_aL, z_aS, z_gO, z_k_r, z_push_s, z_push_n, okS_0, okS_I, okS_R, okS_A, List.getElem?_cons_zero, List.getElem?_cons_succ, List.length_cons, List.length_nil, List.set_cons_zero, List.set_cons_succ, true_and, and_true, z_tI, z_tB, pk_mul, nI_add, cI_cl, cI_ix, arr_at, arr_upd, nar_0, nar_1, nar_b, Nat.reduceAdd, Nat.reduceLT, Nat.reduceMul, cI_lt, cI_eq, if_true, if_false, Nat.lt_irrefl, eq_self, Nat.reduceEqDiff, or_true, true_or, or_false, not_false_eq_true, not_true_eq_false, ce_5, zb_t, zb_f, l2, ze_20_0, ze_20_1, ze_20_4, ze_20_5, ze_20_6, ze_20_9, ze_20_11, ze_20_12, ze_20_13, ze_20_16, ze_20_18, ze_20_21, ze_20_22, ze_20_25, ze_20_27, ze_20_30, ze_20_31, ze_20_32, ze_20_33, ze_20_34, ze_20_37, ze_20_39, ze_20_40, ze_20_41, ze_20_42, ze_20_45, ze_20_46, ze_20_47, ze_20_48, ze_20_49, ze_20_50, ze_20_53, ze_20_56, ze_20_57, ze_20_60, ze_20_63, ze_20_66, ze_20_68, ze_20_69, ze_20_70, ze_20_71, ze_20_74, ze_20_75, ze_20_76, ze_20_77, ze_20_80, ze_20_81, sS_andn]
        rfl
      · simp (disch := omega) only [e1, e2, e3, if_true, not_true_eq_false, not_false_eq_true, if_false, z_gI, z_gR, z_pF, z_aL, z_aS, z_gO, z_k_r, z_push_s, z_push_n, okS_0, okS_I, okS_R, okS_A, List.getElem?_cons_zero, List.getElem?_cons_succ, List.length_cons, List.length_nil, List.set_cons_zero, List.set_cons_succ, true_and, and_true, z_tI, z_tB, pk_mul, nI_add, cI_cl, cI_ix, arr_at, arr_upd, nar_0, nar_1, nar_b, Nat.reduceAdd, Nat.reduceLT, Nat.reduceMul, cI_lt, cI_eq, if_true, if_false, Nat.lt_irrefl, eq_self, Nat.reduceEqDiff, or_true, true_or, or_false, not_false_eq_true, not_true_eq_false, ce_5, zb_t, zb_f, sS_0]
theorem br_low1 {r j : Nat} : (low (S.br r j 1) = 5) = ¬ (pop (S.cd r j) = 1) := by
  unfold GS.br
  rw [if_pos rfl]
  refine propext ⟨fun z e => ?_, fun z => ?_⟩
  · rw [if_pos e] at z
    exact pop_low (by omega) z
  · rw [if_neg z]
    rfl
theorem s_reason1 (hF : gw f a S.w fo = some (.inr (2, [.ref a]))) (hc : ∀ k, S.c k ≤ 5) (hC : S.C ≤ 5) (hR : S.R ≤ 5) (hd : 2 < d) {r j : Nat} (hr : r < 5) (hj : j < 5) : z_Ca g d 18 [.ref fo, .int (nI r), .int (nI j)] (gw f a S.w, q) P = P (.inr (some (.int (nI (S.rs r j)))), (gw f a S.w, q)) := by
  have hd0 : 0 < d := by omega
  rw [zn_18]
  simp (disch := omega) only [ze_18_0, ze_18_1, ze_18_3, ze_18_4, ze_18_7, ze_18_8, ze_18_9, ze_18_10, ze_18_11, ze_18_14, ze_18_17, ze_18_18, ze_18_19, ze_18_22, ze_18_25, ze_18_26, z_gI, z_gR, z_pF, z_aL, z_aS, z_gO, z_k_r, z_push_s, z_push_n, okS_0, okS_I, okS_R, okS_A, List.getElem?_cons_zero, List.getElem?_cons_succ, List.length_cons, List.length_nil, List.set_cons_zero, List.set_cons_succ, true_and, and_true, z_tI, z_tB, pk_mul, nI_add, cI_cl, cI_ix, arr_at, arr_upd, nar_0, nar_1, nar_b, Nat.reduceAdd, Nat.reduceLT, Nat.reduceMul, cI_lt, cI_eq, if_true, if_false, Nat.lt_irrefl, eq_self, Nat.reduceEqDiff, or_true, true_or, or_false, not_false_eq_true, not_true_eq_false, ce_5, zb_t, zb_f]
  rw [ze_18_2]
  simp (disch := omega) only [ze_18_0, ze_18_1, ze_18_3, ze_18_4, ze_18_7, ze_18_8, ze_18_9, ze_18_10, ze_18_11, ze_18_14, ze_18_17, ze_18_18, ze_18_19, ze_18_22, ze_18_25, ze_18_26, z_gI, z_gR, z_pF, z_aL, z_aS, z_gO, z_k_r, z_push_s, z_push_n, okS_0, okS_I, okS_R, okS_A, List.getElem?_cons_zero, List.getElem?_cons_succ, List.length_cons, List.length_nil, List.set_cons_zero, List.set_cons_succ, true_and, and_true, z_tI, z_tB, pk_mul, nI_add, cI_cl, cI_ix, arr_at, arr_upd, nar_0, nar_1, nar_b, Nat.reduceAdd, Nat.reduceLT, Nat.reduceMul, cI_lt, cI_eq, if_true, if_false, Nat.lt_irrefl, eq_self, Nat.reduceEqDiff, or_true, true_or, or_false, not_false_eq_true, not_true_eq_false, ce_5, zb_t, zb_f, hF, s_bits hF hc hC hR, hd0, sS_low, br_low1]
  unfold GS.rs
  by_cases e1 : pop (S.cd r j) = 1
  · simp (disch := omega) only [e1, not_true_eq_false, if_true, if_false]
  · simp (disch := omega) only [e1, not_false_eq_true, if_true, if_false]
    rw [ze_18_2]
    simp (disch := omega) only [ze_18_0, ze_18_1, ze_18_3, ze_18_4, ze_18_7, ze_18_8, ze_18_9, ze_18_10, ze_18_11, ze_18_14, ze_18_17, ze_18_18, ze_18_19, ze_18_22, ze_18_25, ze_18_26, z_gI, z_gR, z_pF, z_aL, z_aS, z_gO, z_k_r, z_push_s, z_push_n, okS_0, okS_I, okS_R, okS_A, List.getElem?_cons_zero, List.getElem?_cons_succ, List.length_cons, List.length_nil, List.set_cons_zero, List.set_cons_succ, true_and, and_true, z_tI, z_tB, pk_mul, nI_add, cI_cl, cI_ix, arr_at, arr_upd, nar_0, nar_1, nar_b, Nat.reduceAdd, Nat.reduceLT, Nat.reduceMul, cI_lt, cI_eq, if_true, if_false, Nat.lt_irrefl, eq_self, Nat.reduceEqDiff, or_true, true_or, or_false, not_false_eq_true, not_true_eq_false, ce_5, zb_t, zb_f, hF, s_bits hF hc hC hR, hd0, sS_low]
    rw [show S.br r j 2 = S.eR r j from rfl]
    by_cases e2 : low (S.eR r j) = 5
    · simp (disch := omega) only [e2, not_true_eq_false, if_true, if_false, ne_eq]
      rw [ze_18_2]
      simp (disch := omega) only [ze_18_0, ze_18_1, ze_18_3, ze_18_4, ze_18_7, ze_18_8, ze_18_9, ze_18_10, ze_18_11, ze_18_14, ze_18_17, ze_18_18, ze_18_19, ze_18_22, ze_18_25, ze_18_26, z_gI, z_gR, z_pF, z_aL, z_aS, z_gO, z_k_r, z_push_s, z_push_n, okS_0, okS_I, okS_R, okS_A, List.getElem?_cons_zero, List.getElem?_cons_succ, List.length_cons, List.length_nil, List.set_cons_zero, List.set_cons_succ, true_and, and_true, z_tI, z_tB, pk_mul, nI_add, cI_cl, cI_ix, arr_at, arr_upd, nar_0, nar_1, nar_b, Nat.reduceAdd, Nat.reduceLT, Nat.reduceMul, cI_lt, cI_eq, if_true, if_false, Nat.lt_irrefl, eq_self, Nat.reduceEqDiff, or_true, true_or, or_false, not_false_eq_true, not_true_eq_false, ce_5, zb_t, zb_f, hF, s_bits hF hc hC hR, hd0, sS_low]
      have e3 : (low (S.br r j 3) = 5) = ¬ (S.R = S.C ∧ ¬ low (S.eC r j) = 5) := by
        unfold GS.br
        rw [if_neg (by omega), if_neg (by omega)]
        by_cases e : S.R = S.C
        · rw [if_pos e]
          simp [e]
        · rw [if_neg e]
          simp [e, low]
      simp only [e3]
      by_cases e4 : S.R = S.C ∧ ¬ low (S.eC r j) = 5
      · simp (disch := omega) only [e4, not_true_eq_false, if_true, if_false, ne_eq, and_self, not_false_eq_true]
      · simp (disch := omega) only [e4, not_false_eq_true, if_true, if_false, ne_eq]
        rw [ze_18_2]
        simp (disch := omega) only [ze_18_0, ze_18_1, ze_18_3, ze_18_4, ze_18_7, ze_18_8, ze_18_9, ze_18_10, ze_18_11, ze_18_14, ze_18_17, ze_18_18, ze_18_19, ze_18_22, ze_18_25, ze_18_26, z_gI, z_gR, z_pF, z_aL, z_aS, z_gO, z_k_r, z_push_s, z_push_n, okS_0, okS_I, okS_R, okS_A, List.getElem?_cons_zero, List.getElem?_cons_succ, List.length_cons, List.length_nil, List.set_cons_zero, List.set_cons_succ, true_and, and_true, z_tI, z_tB, pk_mul, nI_add, cI_cl, cI_ix, arr_at, arr_upd, nar_0, nar_1, nar_b, Nat.reduceAdd, Nat.reduceLT, Nat.reduceMul, cI_lt, cI_eq, if_true, if_false, Nat.lt_irrefl, eq_self, Nat.reduceEqDiff, or_true, true_or, or_false, not_false_eq_true, not_true_eq_false, ce_5, zb_t, zb_f]
    · simp (disch := omega) only [e2, not_false_eq_true, if_true, if_false, ne_eq]
end
