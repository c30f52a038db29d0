/-! empty cells by the number of their candidates -/
def oe (o : Option Nat) (K : Nat → Prop) (E : Prop) : Prop := match o with
  | some i => K i
  | none => E
theorem oe_s (i : Nat) (K : Nat → Prop) (E : Prop) : oe (some i) K E = K i := rfl
theorem oe_n (K : Nat → Prop) (E : Prop) : oe none K E = E := rfl
theorem kf_iff {p : Nat → Bool} {X : Nat} (hX : X < 2147483648) : ∀ (k i n : Nat), n ≤ X → (kf p (nI X) i k n = none ↔ n + ct p i k ≤ X)
  | 0, i, n, h => by
    rw [ct_z, Nat.add_zero]
    exact ⟨fun _ => h, fun _ => rfl⟩
  | k + 1, i, n, h => by
    unfold kf
    rw [ct_s]
    cases e : p i
    · rw [if_neg Bool.false_ne_true, Bool.toNat_false, Nat.zero_add]
      exact kf_iff hX k (i + 1) n h
    · rw [if_pos rfl, Bool.toNat_true]
      by_cases e2 : X = n
      · subst e2
        rw [if_pos rfl]
        exact ⟨fun z => by (exact absurd z (by simp)), fun z => by omega⟩
      · have : ¬ nI X = nI n := by
          rw [cI_eq hX (by omega)]
          exact e2
        rw [if_neg this, kf_iff hX k (i + 1) (n + 1) (by omega)]
        omega
theorem sub_ge {X t : Nat} (hX : X < 2147483648) (h : t ≤ X) : (nI X - nI t < nI 0) = False := by
  rw [cI_sub h, cI_lt (by omega) (by omega)]
  exact eq_false (by omega)
/-- an empty cell of a number of candidates -/
def GS.pe (S : GS) (n k : Nat) : Bool := decide (k / 5 < S.R) && decide (k % 5 < S.C) && decide (S.c k = 5) && decide (pop (S.cd (k / 5) (k % 5)) = n)
def GS.ef (S : GS) (x : Int32) : Nat → Nat → Nat → Option (Nat × Nat)
  | _, 0, _ => none
  | n, k + 1, t => match kf (S.pe n) x 0 25 t with
    | some i => some (i, n)
    | none => S.ef x (n + 1) k (t + ct (S.pe n) 0 25)
theorem pe_at {S : GS} {n r j : Nat} (hj : j < 5) : S.pe n (r * 5 + j) = (decide (r < S.R) && decide (j < S.C) && decide (S.c (r * 5 + j) = 5) && decide (pop (S.cd r j) = n)) := by
  unfold GS.pe
  rw [show (r * 5 + j) / 5 = r by omega, show (r * 5 + j) % 5 = j by omega]
section
variable {g : z_G} {d : Nat} {f : Nat → Option z_C} {h : z_H} {q : Option Nat × Nat × Nat} {P : z_Res → Prop} {a x : Nat} {S : GS} {fs : List Value}
theorem s_emp1 (hX : gw f a S.w x = some (.inr (9, .ref a :: fs))) (hc : ∀ k, S.c k ≤ 5) (hC : S.C ≤ 5) (hR : S.R ≤ 5) (hd : 0 < d) {X N : Nat} (hX2 : X < 2147483648) (hN : N < 10) {y : Int32} {r : Nat} (hr : r < S.R) {E : Nat → Prop} (hO : ∀ n v, n ≤ X → z_T g d 118 106 [.ref x, .int y, .int (nI X - nI n), .int (nI N), .int (nI r), .int (nI S.C), v] [] (gw f a S.w, q) P = oe (kf (S.pe N) (nI X) ((r + 1) * 5) (25 - (r + 1) * 5) n) (fun i => P (.inr (some (.int (nI i))), (gw f a S.w, q))) (E (n + ct (S.pe N) ((r + 1) * 5) (25 - (r + 1) * 5)))) : ∀ (k j n : Nat) (v : Value), j + k = S.C → n ≤ X → z_T g d 118 37 [.ref x, .int y, .int (nI X - nI n), .int (nI N), .int (nI r), .int (nI j), v] [] (gw f a S.w, q) P = oe (kf (S.pe N) (nI X) (r * 5 + j) (25 - (r * 5 + j)) n) (fun i => P (.inr (some (.int (nI i))), (gw f a S.w, q))) (E (n + ct (S.pe N) (r * 5 + j) (25 - (r * 5 + j))))
  | 0, j, n, v, h, ht => by
    have : j = S.C := by omega
    subst this
    have z : ∀ j, r * 5 + S.C ≤ j → j < r * 5 + S.C + (5 - S.C) → S.pe N j = false := by
      intro j h1 h2
      unfold GS.pe
      rw [decide_eq_false (p := j % 5 < S.C) (by omega), Bool.and_false, Bool.false_and, Bool.false_and]
    rw [ze_118_37]
    simp (disch := omega) only [ze_118_0, ze_118_1, ze_118_2, ze_118_3, ze_118_4, ze_118_5, ze_118_6, ze_118_9, ze_118_12, ze_118_15, ze_118_16, ze_118_19, ze_118_20, ze_118_22, ze_118_24, ze_118_25, ze_118_28, ze_118_31, ze_118_34, ze_118_35, ze_118_39, ze_118_40, ze_118_43, ze_118_46, ze_118_49, ze_118_51, ze_118_52, ze_118_53, ze_118_55, ze_118_56, ze_118_58, ze_118_59, ze_118_62, ze_118_65, ze_118_67, ze_118_68, ze_118_69, ze_118_72, ze_118_73, ze_118_76, ze_118_78, ze_118_80, ze_118_83, ze_118_86, ze_118_87, ze_118_90, ze_118_91, ze_118_94, ze_118_96, ze_118_97, ze_118_100, ze_118_103, ze_118_109, ze_118_112, ze_118_115, ze_118_118, ze_118_119, z_gI, z_gR, z_pF, z_aL, z_aS, z_gO, z_k_r, z_push_s, z_push_n, okS_0, okS_I, okS_R, okS_A, List.getElem?_cons_zero, List.getElem?_cons_succ, List.length_cons, List.length_nil, List.set_cons_zero, List.set_cons_succ, true_and, and_true, z_tI, z_tB, pk_mul, nI_add, cI_cl, cI_ix, arr_at, arr_upd, nar_0, nar_1, nar_b, Nat.reduceAdd, Nat.reduceLT, Nat.reduceMul, cI_lt, cI_eq, ↓reduceIte, if_true, if_false, Nat.lt_irrefl, eq_self, Nat.reduceEqDiff, or_true, true_or, or_false, not_false_eq_true, not_true_eq_false, ce_5, zb_t, zb_f, pGW_A, pGW_V, pGW_B, pGW_r, pGW_c, pGW_R, pGW_C, pGW_F, pGW_G, pGW_N, pGS_c, pGS_gv, pGS_b, pGS_R, pGS_C, pGS_G, pGS_N, gw_0, gw_1, gw_2, gw_3, gw_4, gw_5, gw_u0, gw_u1, gw_u2, gw_u3, gw_u4, gw_u5, gs_A, gs_V, gs_B, gs_r, gs_c, gs_R, gs_C, gs_F, gs_G, gs_N, hX]
    rw [hO _ _ ht, show 25 - (r * 5 + S.C) = (5 - S.C) + (25 - (r + 1) * 5) by omega, kf_skip _ _ _ _ z, ct_split, ct_zero _ _ z, Nat.zero_add, show r * 5 + S.C + (5 - S.C) = (r + 1) * 5 by omega]
  | k + 1, j, n, v, h, ht => by
    have hj : j < S.C := by omega
    have e5 := ce_em (hc (r * 5 + j))
    have hp := pop_lt (S.cd r j)
    have pa : S.pe N (r * 5 + j) = (decide (S.c (r * 5 + j) = 5) && decide (pop (S.cd r j) = N)) := by
      rw [pe_at (by omega), decide_eq_true hr, decide_eq_true hj]
      rfl
    rw [ze_118_37, show 25 - (r * 5 + j) = (25 - (r * 5 + (j + 1))) + 1 by omega]
    unfold kf
    rw [ct_s]
    simp (disch := omega) only [ze_118_0, ze_118_1, ze_118_2, ze_118_3, ze_118_4, ze_118_5, ze_118_6, ze_118_9, ze_118_12, ze_118_15, ze_118_16, ze_118_19, ze_118_20, ze_118_22, ze_118_24, ze_118_25, ze_118_28, ze_118_31, ze_118_34, ze_118_35, ze_118_39, ze_118_40, ze_118_43, ze_118_46, ze_118_49, ze_118_51, ze_118_52, ze_118_53, ze_118_55, ze_118_56, ze_118_58, ze_118_59, ze_118_62, ze_118_65, ze_118_67, ze_118_68, ze_118_69, ze_118_72, ze_118_73, ze_118_76, ze_118_78, ze_118_80, ze_118_83, ze_118_86, ze_118_87, ze_118_90, ze_118_91, ze_118_94, ze_118_96, ze_118_97, ze_118_100, ze_118_103, ze_118_109, ze_118_112, ze_118_115, ze_118_118, ze_118_119, z_gI, z_gR, z_pF, z_aL, z_aS, z_gO, z_k_r, z_push_s, z_push_n, okS_0, okS_I, okS_R, okS_A, List.getElem?_cons_zero, List.getElem?_cons_succ, List.length_cons, List.length_nil, List.set_cons_zero, List.set_cons_succ, true_and, and_true, z_tI, z_tB, pk_mul, nI_add, cI_cl, cI_ix, arr_at, arr_upd, nar_0, nar_1, nar_b, Nat.reduceAdd, Nat.reduceLT, Nat.reduceMul, cI_lt, cI_eq, ↓reduceIte, if_true, if_false, Nat.lt_irrefl, eq_self, Nat.reduceEqDiff, or_true, true_or, or_false, not_false_eq_true, not_true_eq_false, ce_5, zb_t, zb_f, pGW_A, pGW_V, pGW_B, pGW_r, pGW_c, pGW_R, pGW_C, pGW_F, pGW_G, pGW_N, pGS_c, pGS_gv, pGS_b, pGS_R, pGS_C, pGS_G, pGS_N, gw_0, gw_1, gw_2, gw_3, gw_4, gw_5, gw_u0, gw_u1, gw_u2, gw_u3, gw_u4, gw_u5, gs_A, gs_V, gs_B, gs_r, gs_c, gs_R, gs_C, gs_F, gs_G, gs_N, hX, hj, s_cand hc hC, s_bitCount, hd, pa, e5, sub_nI, sub_nI1]
    by_cases e : S.c (r * 5 + j) = 5
    · by_cases e2 : pop (S.cd r j) = N
      · simp only [e, e2, if_true, if_false, decide_true, Bool.and_self, Bool.toNat_true, not_true_eq_false]
        by_cases e3 : X = n
        · simp only [e3, if_true, not_true_eq_false, if_false, oe_s]
        · simp only [e3, if_false, not_false_eq_true, if_true]
          rw [s_emp1 hX hc hC hR hd hX2 hN hr hO k (j + 1) (n + 1) _ (by omega) (by omega), Nat.add_assoc]
          rfl
      · simp only [e, e2, if_true, if_false, decide_true, decide_false, Bool.and_false, Bool.toNat_false, not_true_eq_false, not_false_eq_true, Bool.false_eq_true, Nat.zero_add]
        rw [s_emp1 hX hc hC hR hd hX2 hN hr hO k (j + 1) n _ (by omega) ht]
        rfl
    · simp only [e, if_true, if_false, decide_false, Bool.false_and, Bool.toNat_false, not_false_eq_true, Bool.false_eq_true, Nat.zero_add]
      rw [s_emp1 hX hc hC hR hd hX2 hN hr hO k (j + 1) n _ (by omega) ht]
      rfl
theorem s_emp2 (hX : gw f a S.w x = some (.inr (9, .ref a :: fs))) (hc : ∀ k, S.c k ≤ 5) (hC : S.C ≤ 5) (hR : S.R ≤ 5) (hd : 0 < d) {X N : Nat} (hX2 : X < 2147483648) (hN : N < 10) {y : Int32} {E : Nat → Prop} (hO : ∀ n u v, n ≤ X → z_T g d 118 112 [.ref x, .int y, .int (nI X - nI n), .int (nI N), .int (nI S.R), u, v] [] (gw f a S.w, q) P = E n) : ∀ (k r n : Nat) (u v : Value), r + k = S.R → n ≤ X → z_T g d 118 22 [.ref x, .int y, .int (nI X - nI n), .int (nI N), .int (nI r), u, v] [] (gw f a S.w, q) P = oe (kf (S.pe N) (nI X) (r * 5) (25 - r * 5) n) (fun i => P (.inr (some (.int (nI i))), (gw f a S.w, q))) (E (n + ct (S.pe N) (r * 5) (25 - r * 5)))
  | 0, r, n, u, v, h, ht => by
    have : r = S.R := by omega
    subst this
    have z : ∀ j, S.R * 5 ≤ j → j < S.R * 5 + (25 - S.R * 5) → S.pe N j = false := by
      intro j h1 h2
      unfold GS.pe
      rw [decide_eq_false (p := j / 5 < S.R) (by omega), Bool.false_and, Bool.false_and, Bool.false_and]
    rw [ze_118_22]
    simp (disch := omega) only [ze_118_0, ze_118_1, ze_118_2, ze_118_3, ze_118_4, ze_118_5, ze_118_6, ze_118_9, ze_118_12, ze_118_15, ze_118_16, ze_118_19, ze_118_20, ze_118_24, ze_118_25, ze_118_28, ze_118_31, ze_118_34, ze_118_35, ze_118_39, ze_118_40, ze_118_43, ze_118_46, ze_118_49, ze_118_51, ze_118_52, ze_118_53, ze_118_55, ze_118_56, ze_118_58, ze_118_59, ze_118_62, ze_118_65, ze_118_67, ze_118_68, ze_118_69, ze_118_72, ze_118_73, ze_118_76, ze_118_78, ze_118_80, ze_118_83, ze_118_86, ze_118_87, ze_118_90, ze_118_91, ze_118_94, ze_118_96, ze_118_97, ze_118_100, ze_118_103, ze_118_106, ze_118_109, ze_118_115, ze_118_118, ze_118_119, z_gI, z_gR, z_pF, z_aL, z_aS, z_gO, z_k_r, z_push_s, z_push_n, okS_0, okS_I, okS_R, okS_A, List.getElem?_cons_zero, List.getElem?_cons_succ, List.length_cons, List.length_nil, List.set_cons_zero, List.set_cons_succ, true_and, and_true, z_tI, z_tB, pk_mul, nI_add, cI_cl, cI_ix, arr_at, arr_upd, nar_0, nar_1, nar_b, Nat.reduceAdd, Nat.reduceLT, Nat.reduceMul, cI_lt, cI_eq, ↓reduceIte, if_true, if_false, Nat.lt_irrefl, eq_self, Nat.reduceEqDiff, or_true, true_or, or_false, not_false_eq_true, not_true_eq_false, ce_5, zb_t, zb_f, pGW_A, pGW_V, pGW_B, pGW_r, pGW_c, pGW_R, pGW_C, pGW_F, pGW_G, pGW_N, pGS_c, pGS_gv, pGS_b, pGS_R, pGS_C, pGS_G, pGS_N, gw_0, gw_1, gw_2, gw_3, gw_4, gw_5, gw_u0, gw_u1, gw_u2, gw_u3, gw_u4, gw_u5, gs_A, gs_V, gs_B, gs_r, gs_c, gs_R, gs_C, gs_F, gs_G, gs_N, hX]
    rw [hO _ _ _ ht, kf_none _ _ _ z, ct_zero _ _ z, oe_n, Nat.add_zero]
  | k + 1, r, n, u, v, h, ht => by
    have hr : r < S.R := by omega
    rw [ze_118_22]
    simp (disch := omega) only [ze_118_0, ze_118_1, ze_118_2, ze_118_3, ze_118_4, ze_118_5, ze_118_6, ze_118_9, ze_118_12, ze_118_15, ze_118_16, ze_118_19, ze_118_20, ze_118_24, ze_118_25, ze_118_28, ze_118_31, ze_118_34, ze_118_35, ze_118_39, ze_118_40, ze_118_43, ze_118_46, ze_118_49, ze_118_51, ze_118_52, ze_118_53, ze_118_55, ze_118_56, ze_118_58, ze_118_59, ze_118_62, ze_118_65, ze_118_67, ze_118_68, ze_118_69, ze_118_72, ze_118_73, ze_118_76, ze_118_78, ze_118_80, ze_118_83, ze_118_86, ze_118_87, ze_118_90, ze_118_91, ze_118_94, ze_118_96, ze_118_97, ze_118_100, ze_118_103, ze_118_106, ze_118_109, ze_118_112, ze_118_115, ze_118_118, ze_118_119, z_gI, z_gR, z_pF, z_aL, z_aS, z_gO, z_k_r, z_push_s, z_push_n, okS_0, okS_I, okS_R, okS_A, List.getElem?_cons_zero, List.getElem?_cons_succ, List.length_cons, List.length_nil, List.set_cons_zero, List.set_cons_succ, true_and, and_true, z_tI, z_tB, pk_mul, nI_add, cI_cl, cI_ix, arr_at, arr_upd, nar_0, nar_1, nar_b, Nat.reduceAdd, Nat.reduceLT, Nat.reduceMul, cI_lt, cI_eq, ↓reduceIte, if_true, if_false, Nat.lt_irrefl, eq_self, Nat.reduceEqDiff, or_true, true_or, or_false, not_false_eq_true, not_true_eq_false, ce_5, zb_t, zb_f, pGW_A, pGW_V, pGW_B, pGW_r, pGW_c, pGW_R, pGW_C, pGW_F, pGW_G, pGW_N, pGS_c, pGS_gv, pGS_b, pGS_R, pGS_C, pGS_G, pGS_N, gw_0, gw_1, gw_2, gw_3, gw_4, gw_5, gw_u0, gw_u1, gw_u2, gw_u3, gw_u4, gw_u5, gs_A, gs_V, gs_B, gs_r, gs_c, gs_R, gs_C, gs_F, gs_G, gs_N, hX, hr]
    rw [s_emp1 hX hc hC hR hd hX2 hN hr _ S.C 0 n _ (by omega) ht, Nat.add_zero]
    intro n v ht
    simp (disch := omega) only [ze_118_0, ze_118_1, ze_118_2, ze_118_3, ze_118_4, ze_118_5, ze_118_6, ze_118_9, ze_118_12, ze_118_15, ze_118_16, ze_118_19, ze_118_20, ze_118_24, ze_118_25, ze_118_28, ze_118_31, ze_118_34, ze_118_35, ze_118_39, ze_118_40, ze_118_43, ze_118_46, ze_118_49, ze_118_51, ze_118_52, ze_118_53, ze_118_55, ze_118_56, ze_118_58, ze_118_59, ze_118_62, ze_118_65, ze_118_67, ze_118_68, ze_118_69, ze_118_72, ze_118_73, ze_118_76, ze_118_78, ze_118_80, ze_118_83, ze_118_86, ze_118_87, ze_118_90, ze_118_91, ze_118_94, ze_118_96, ze_118_97, ze_118_100, ze_118_103, ze_118_106, ze_118_109, ze_118_112, ze_118_115, ze_118_118, ze_118_119, z_gI, z_gR, z_pF, z_aL, z_aS, z_gO, z_k_r, z_push_s, z_push_n, okS_0, okS_I, okS_R, okS_A, List.getElem?_cons_zero, List.getElem?_cons_succ, List.length_cons, List.length_nil, List.set_cons_zero, List.set_cons_succ, true_and, and_true, z_tI, z_tB, pk_mul, nI_add, cI_cl, cI_ix, arr_at, arr_upd, nar_0, nar_1, nar_b, Nat.reduceAdd, Nat.reduceLT, Nat.reduceMul]
    rw [s_emp2 hX hc hC hR hd hX2 hN hO k (r + 1) n _ _ (by omega) ht]
def oef (o : Option (Nat × Nat)) : Int32 := match o with
  | some i => nI i.1
  | none => -1
theorem s_emp3 (hX : gw f a S.w x = some (.inr (9, .ref a :: fs))) (hc : ∀ k, S.c k ≤ 5) (hC : S.C ≤ 5) (hR : S.R ≤ 5) (hd : 0 < d) {X : Nat} (hX2 : X < 2147483648) {y : Int32} : ∀ (k N t : Nat) (u v w : Value), N + k = S.C + 1 → t ≤ X → z_T g d 118 4 [.ref x, .int y, .int (nI X - nI t), .int (nI N), u, v, w] [] (gw f a S.w, q) P = P (.inr (some (.int (oef (S.ef (nI X) N k t)))), (gw f a S.w, q))
  | 0, N, t, u, v, w, h, ht => by
    have : N = S.C + 1 := by omega
    subst this
    have hn : S.C < S.C + 1 := by omega
    rw [ze_118_4]
    simp (disch := omega) only [ze_118_0, ze_118_1, ze_118_2, ze_118_3, ze_118_5, ze_118_6, ze_118_9, ze_118_12, ze_118_15, ze_118_16, ze_118_19, ze_118_20, ze_118_22, ze_118_24, ze_118_25, ze_118_28, ze_118_31, ze_118_34, ze_118_35, ze_118_37, ze_118_39, ze_118_40, ze_118_43, ze_118_46, ze_118_49, ze_118_51, ze_118_52, ze_118_53, ze_118_55, ze_118_56, ze_118_58, ze_118_59, ze_118_62, ze_118_65, ze_118_67, ze_118_68, ze_118_69, ze_118_72, ze_118_73, ze_118_76, ze_118_78, ze_118_80, ze_118_83, ze_118_86, ze_118_87, ze_118_90, ze_118_91, ze_118_94, ze_118_96, ze_118_97, ze_118_100, ze_118_103, ze_118_106, ze_118_109, ze_118_112, ze_118_115, ze_118_118, ze_118_119, z_gI, z_gR, z_pF, z_aL, z_aS, z_gO, z_k_r, z_push_s, z_push_n, okS_0, okS_I, okS_R, okS_A, List.getElem?_cons_zero, List.getElem?_cons_succ, List.length_cons, List.length_nil, List.set_cons_zero, List.set_cons_succ, true_and, and_true, z_tI, z_tB, pk_mul, nI_add, cI_cl, cI_ix, arr_at, arr_upd, nar_0, nar_1, nar_b, Nat.reduceAdd, Nat.reduceLT, Nat.reduceMul, cI_lt, cI_eq, ↓reduceIte, if_true, if_false, Nat.lt_irrefl, eq_self, Nat.reduceEqDiff, or_true, true_or, or_false, not_false_eq_true, not_true_eq_false, ce_5, zb_t, zb_f, pGW_A, pGW_V, pGW_B, pGW_r, pGW_c, pGW_R, pGW_C, pGW_F, pGW_G, pGW_N, pGS_c, pGS_gv, pGS_b, pGS_R, pGS_C, pGS_G, pGS_N, gw_0, gw_1, gw_2, gw_3, gw_4, gw_5, gw_u0, gw_u1, gw_u2, gw_u3, gw_u4, gw_u5, gs_A, gs_V, gs_B, gs_r, gs_c, gs_R, gs_C, gs_F, gs_G, gs_N, hX, hn]
    rfl
  | k + 1, N, t, u, v, w, h, ht => by
    have hn : ¬ S.C < N := by omega
    rw [ze_118_4]
    simp (disch := omega) only [ze_118_0, ze_118_1, ze_118_2, ze_118_3, ze_118_5, ze_118_6, ze_118_9, ze_118_12, ze_118_15, ze_118_16, ze_118_19, ze_118_20, ze_118_24, ze_118_25, ze_118_28, ze_118_31, ze_118_34, ze_118_35, ze_118_37, ze_118_39, ze_118_40, ze_118_43, ze_118_46, ze_118_49, ze_118_51, ze_118_52, ze_118_53, ze_118_55, ze_118_56, ze_118_58, ze_118_59, ze_118_62, ze_118_65, ze_118_67, ze_118_68, ze_118_69, ze_118_72, ze_118_73, ze_118_76, ze_118_78, ze_118_80, ze_118_83, ze_118_86, ze_118_87, ze_118_90, ze_118_91, ze_118_94, ze_118_96, ze_118_97, ze_118_100, ze_118_103, ze_118_106, ze_118_109, ze_118_112, ze_118_115, ze_118_118, ze_118_119, z_gI, z_gR, z_pF, z_aL, z_aS, z_gO, z_k_r, z_push_s, z_push_n, okS_0, okS_I, okS_R, okS_A, List.getElem?_cons_zero, List.getElem?_cons_succ, List.length_cons, List.length_nil, List.set_cons_zero, List.set_cons_succ, true_and, and_true, z_tI, z_tB, pk_mul, nI_add, cI_cl, cI_ix, arr_at, arr_upd, nar_0, nar_1, nar_b, Nat.reduceAdd, Nat.reduceLT, Nat.reduceMul, cI_lt, cI_eq, ↓reduceIte, if_true, if_false, Nat.lt_irrefl, eq_self, Nat.reduceEqDiff, or_true, true_or, or_false, not_false_eq_true, not_true_eq_false, ce_5, zb_t, zb_f, pGW_A, pGW_V, pGW_B, pGW_r, pGW_c, pGW_R, pGW_C, pGW_F, pGW_G, pGW_N, pGS_c, pGS_gv, pGS_b, pGS_R, pGS_C, pGS_G, pGS_N, gw_0, gw_1, gw_2, gw_3, gw_4, gw_5, gw_u0, gw_u1, gw_u2, gw_u3, gw_u4, gw_u5, gs_A, gs_V, gs_B, gs_r, gs_c, gs_R, gs_C, gs_F, gs_G, gs_N, hX, hn, sub_ge hX2 ht]
    rw [s_emp2 hX hc hC hR hd hX2 (by omega) (E := fun n => P (.inr (some (.int (oef (S.ef (nI X) (N + 1) k n)))), (gw f a S.w, q))) _ S.R 0 t _ _ (by omega) ht]
    · conv => rhs; unfold GS.ef
      rw [Nat.zero_mul, Nat.sub_zero]
      cases e : kf (S.pe N) (nI X) 0 25 t with
      | some i => rfl
      | none => rfl
    · intro n u v hn
      simp (disch := omega) only [ze_118_0, ze_118_1, ze_118_2, ze_118_3, ze_118_5, ze_118_6, ze_118_9, ze_118_12, ze_118_15, ze_118_16, ze_118_19, ze_118_20, ze_118_24, ze_118_25, ze_118_28, ze_118_31, ze_118_34, ze_118_35, ze_118_37, ze_118_39, ze_118_40, ze_118_43, ze_118_46, ze_118_49, ze_118_51, ze_118_52, ze_118_53, ze_118_55, ze_118_56, ze_118_58, ze_118_59, ze_118_62, ze_118_65, ze_118_67, ze_118_68, ze_118_69, ze_118_72, ze_118_73, ze_118_76, ze_118_78, ze_118_80, ze_118_83, ze_118_86, ze_118_87, ze_118_90, ze_118_91, ze_118_94, ze_118_96, ze_118_97, ze_118_100, ze_118_103, ze_118_106, ze_118_109, ze_118_112, ze_118_115, ze_118_118, ze_118_119, z_gI, z_gR, z_pF, z_aL, z_aS, z_gO, z_k_r, z_push_s, z_push_n, okS_0, okS_I, okS_R, okS_A, List.getElem?_cons_zero, List.getElem?_cons_succ, List.length_cons, List.length_nil, List.set_cons_zero, List.set_cons_succ, true_and, and_true, z_tI, z_tB, pk_mul, nI_add, cI_cl, cI_ix, arr_at, arr_upd, nar_0, nar_1, nar_b, Nat.reduceAdd, Nat.reduceLT, Nat.reduceMul]
      rw [s_emp3 hX hc hC hR hd hX2 k (N + 1) n _ _ _ (by omega) hn]
theorem s_emp (hX : gw f a S.w x = some (.inr (9, .ref a :: fs))) (hc : ∀ k, S.c k ≤ 5) (hC : S.C ≤ 5) (hR : S.R ≤ 5) (hd : 0 < d) {X : Nat} (hX2 : X < 2147483648) : z_Ca g d 118 [.ref x, .int (nI X)] (gw f a S.w, q) P = P (.inr (some (.int (oef (S.ef (nI X) 0 (S.C + 1) 0)))), (gw f a S.w, q)) := by
  rw [zn_118]
  simp (disch := omega) only [ze_118_0, ze_118_1, ze_118_2, ze_118_3, ze_118_5, ze_118_6, ze_118_9, ze_118_12, ze_118_15, ze_118_16, ze_118_19, ze_118_20, ze_118_22, ze_118_24, ze_118_25, ze_118_28, ze_118_31, ze_118_34, ze_118_35, ze_118_37, ze_118_39, ze_118_40, ze_118_43, ze_118_46, ze_118_49, ze_118_51, ze_118_52, ze_118_53, ze_118_55, ze_118_56, ze_118_58, ze_118_59, ze_118_62, ze_118_65, ze_118_67, ze_118_68, ze_118_69, ze_118_72, ze_118_73, ze_118_76, ze_118_78, ze_118_80, ze_118_83, ze_118_86, ze_118_87, ze_118_90, ze_118_91, ze_118_94, ze_118_96, ze_118_97, ze_118_100, ze_118_103, ze_118_106, ze_118_109, ze_118_112, ze_118_115, ze_118_118, ze_118_119, z_gI, z_gR, z_pF, z_aL, z_aS, z_gO, z_k_r, z_push_s, z_push_n, okS_0, okS_I, okS_R, okS_A, List.getElem?_cons_zero, List.getElem?_cons_succ, List.length_cons, List.length_nil, List.set_cons_zero, List.set_cons_succ, true_and, and_true, z_tI, z_tB, pk_mul, nI_add, cI_cl, cI_ix, arr_at, arr_upd, nar_0, nar_1, nar_b, Nat.reduceAdd, Nat.reduceLT, Nat.reduceMul]
  have := s_emp3 (g := g) (q := q) (P := P) hX hc hC hR hd hX2 (y := nI X) (S.C + 1) 0 0 z_un z_un z_un (by omega) (by omega)
  rw [sub_nI0] at this
  exact this
theorem s_empNeg (hX : gw f a S.w x = some (.inr (9, .ref a :: fs))) (hC : S.C ≤ 5) {y : Int32} (hy : y < nI 0) : z_Ca g d 118 [.ref x, .int y] (gw f a S.w, q) P = P (.inr (some (.int (-1))), (gw f a S.w, q)) := by
  rw [zn_118]
  simp (disch := omega) only [ze_118_0, ze_118_1, ze_118_2, ze_118_3, ze_118_4, ze_118_5, ze_118_6, ze_118_9, ze_118_12, ze_118_15, ze_118_16, ze_118_19, ze_118_20, ze_118_22, ze_118_24, ze_118_25, ze_118_28, ze_118_31, ze_118_34, ze_118_35, ze_118_37, ze_118_39, ze_118_40, ze_118_43, ze_118_46, ze_118_49, ze_118_51, ze_118_52, ze_118_53, ze_118_55, ze_118_56, ze_118_58, ze_118_59, ze_118_62, ze_118_65, ze_118_67, ze_118_68, ze_118_69, ze_118_72, ze_118_73, ze_118_76, ze_118_78, ze_118_80, ze_118_83, ze_118_86, ze_118_87, ze_118_90, ze_118_91, ze_118_94, ze_118_96, ze_118_97, ze_118_100, ze_118_103, ze_118_106, ze_118_109, ze_118_112, ze_118_115, ze_118_118, ze_118_119, z_gI, z_gR, z_pF, z_aL, z_aS, z_gO, z_k_r, z_push_s, z_push_n, okS_0, okS_I, okS_R, okS_A, List.getElem?_cons_zero, List.getElem?_cons_succ, List.length_cons, List.length_nil, List.set_cons_zero, List.set_cons_succ, true_and, and_true, z_tI, z_tB, pk_mul, nI_add, cI_cl, cI_ix, arr_at, arr_upd, nar_0, nar_1, nar_b, Nat.reduceAdd, Nat.reduceLT, Nat.reduceMul, cI_lt, cI_eq, ↓reduceIte, if_true, if_false, Nat.lt_irrefl, eq_self, Nat.reduceEqDiff, or_true, true_or, or_false, not_false_eq_true, not_true_eq_false, ce_5, zb_t, zb_f, pGW_A, pGW_V, pGW_B, pGW_r, pGW_c, pGW_R, pGW_C, pGW_F, pGW_G, pGW_N, pGS_c, pGS_gv, pGS_b, pGS_R, pGS_C, pGS_G, pGS_N, gw_0, gw_1, gw_2, gw_3, gw_4, gw_5, gw_u0, gw_u1, gw_u2, gw_u3, gw_u4, gw_u5, gs_A, gs_V, gs_B, gs_r, gs_c, gs_R, gs_C, gs_F, gs_G, gs_N, hX, hy, Nat.not_lt_zero]
end
