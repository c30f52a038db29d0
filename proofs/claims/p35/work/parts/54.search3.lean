/-! the search from its start -/
def PRE (T : GS) (ol : Nat → Nat) (n m : Nat) : Prop := n ≤ m ∧ (∀ i, i < n → ol i < m ∧ inR T.R T.C (ol i) = true ∧ T.c (ol i) = 5) ∧ (∀ i j, i < n → j < n → ol i = ol j → i = j) ∧ (∀ k, k < m → inR T.R T.C k = true → T.c k = 5 → ∃ i, i < n ∧ ol i = k)
theorem PRE_skip {T : GS} {ol : Nat → Nat} {n m m' : Nat} (h : PRE T ol n m) (hm : m ≤ m') (hs : ∀ k, m ≤ k → k < m' → ¬ (inR T.R T.C k = true ∧ T.c k = 5)) : PRE T ol n m' := by
  obtain ⟨a0, a1, a2, a3⟩ := h
  refine ⟨by omega, fun i hi => ?_, a2, fun k h1 h2 h3 => ?_⟩
  · obtain ⟨x1, x2, x3⟩ := a1 i hi
    exact ⟨by omega, x2, x3⟩
  · by_cases e : k < m
    · exact a3 k e h2 h3
    · exact absurd ⟨h2, h3⟩ (hs k (by omega) h1)
theorem PRE_add {T : GS} {ol : Nat → Nat} {n m : Nat} (h : PRE T ol n m) (h1 : inR T.R T.C m = true) (h2 : T.c m = 5) : PRE T (nu ol n m) (n + 1) (m + 1) := by
  obtain ⟨a0, a1, a2, a3⟩ := h
  refine ⟨by omega, fun i hi => ?_, fun i j hi hj e => ?_, fun k x1 x2 x3 => ?_⟩
  · by_cases e : i = n
    · rw [e, nu_s]
      exact ⟨by omega, h1, h2⟩
    · rw [nu_n e]
      obtain ⟨x1, x2, x3⟩ := a1 i (by omega)
      exact ⟨by omega, x2, x3⟩
  · by_cases e1 : i = n
    · by_cases e2 : j = n
      · omega
      · rw [e1, nu_s, nu_n e2] at e
        have := (a1 j (by omega)).1
        omega
    · by_cases e2 : j = n
      · rw [e2, nu_s, nu_n e1] at e
        have := (a1 i (by omega)).1
        omega
      · rw [nu_n e1, nu_n e2] at e
        exact a2 i j (by omega) (by omega) e
  · by_cases e : k = m
    · exact ⟨n, by omega, by rw [nu_s, e]⟩
    · obtain ⟨i, y1, y2⟩ := a3 k (by omega) x2 x3
      exact ⟨i, by omega, by rw [nu_n (by omega), y2]⟩
section
variable {g : z_G} {d : Nat} {f : Nat → Option z_C} {a b : Nat} {T : GS}
theorem k_list1 (hg : GI T) {L : Int32} {r : Nat} (hr : r < T.R) : ∀ (k j n : Nat) (ol : Nat → Nat), j + k = T.C → PRE T ol n (r * 5 + j) → ∃ ol' n', PRE T ol' n' (r * 5 + T.C) ∧ ∀ (q : Option Nat × Nat × Nat) (P : z_Res → Prop), z_T g d 5 20 [.ref b, .int L, .int (nI r), .int (nI j)] [] (cw f b a T ol n, q) P = z_T g d 5 78 [.ref b, .int L, .int (nI r), .int (nI T.C)] [] (cw f b a T ol' n', q) P
  | 0, j, n, ol, h, h1 => by
    have : j = T.C := by omega
    subst this
    have hC := hg.C5
    refine ⟨ol, n, h1, fun q P => ?_⟩
    rw [ze_5_20]
    simp (disch := omega) only [ze_5_0, ze_5_1, ze_5_2, ze_5_5, ze_5_6, ze_5_7, ze_5_8, ze_5_9, ze_5_12, ze_5_15, ze_5_18, ze_5_19, ze_5_21, ze_5_22, ze_5_25, ze_5_28, ze_5_31, ze_5_32, ze_5_35, ze_5_38, ze_5_39, ze_5_40, ze_5_41, ze_5_42, ze_5_43, ze_5_44, ze_5_45, ze_5_48, ze_5_49, ze_5_52, ze_5_53, ze_5_56, ze_5_57, ze_5_58, ze_5_59, ze_5_60, ze_5_61, ze_5_62, ze_5_63, ze_5_63_i, ze_5_64, ze_5_67, ze_5_68, ze_5_69, ze_5_72, ze_5_75, ze_5_81, ze_5_84, ze_5_85, ze_5_86, ze_5_87, ze_5_90, z_gI, z_gR, z_pF, z_aL, z_aS, z_gO, z_k_r, z_push_s, z_push_n, okS_0, okS_I, okS_R, okS_A, List.getElem?_cons_zero, List.getElem?_cons_succ, List.length_cons, List.length_nil, List.set_cons_zero, List.set_cons_succ, true_and, and_true, z_tI, z_tB, pk_mul, nI_add, cI_cl, cI_ix, arr_at, arr_upd, nar_0, nar_1, nar_b, Nat.reduceAdd, Nat.reduceLT, Nat.reduceMul, cI_lt, cI_eq, ↓reduceIte, if_true, if_false, Nat.lt_irrefl, eq_self, Nat.reduceEqDiff, or_true, true_or, or_false, not_false_eq_true, not_true_eq_false, ce_5, zb_t, zb_f, cw_0, cw_7, cw_g0, cw_g1, cw_u0, cw_u7, upd_nI]
  | k + 1, j, n, ol, h, h1 => by
    have hC := hg.C5
    have hRC := hg.RC
    have hj : j < T.C := by omega
    have hn : n < 25 := by have := h1.1; omega
    have e5 := ce_em (hg.c5 (r * 5 + j))
    have hin : inR T.R T.C (r * 5 + j) = true := by rw [inR_at (by omega), decide_eq_true hr, decide_eq_true hj]; rfl
    by_cases e : T.c (r * 5 + j) = 5
    · obtain ⟨ol', n', p1, p2⟩ := k_list1 (L := L) hg hr k (j + 1) (n + 1) (nu ol n (r * 5 + j)) (by omega) (PRE_add h1 hin e)
      refine ⟨ol', n', p1, fun q P => ?_⟩
      rw [ze_5_20]
      simp (disch := omega) only [ze_5_0, ze_5_1, ze_5_2, ze_5_5, ze_5_6, ze_5_7, ze_5_8, ze_5_9, ze_5_12, ze_5_15, ze_5_18, ze_5_19, ze_5_21, ze_5_22, ze_5_25, ze_5_28, ze_5_31, ze_5_32, ze_5_35, ze_5_38, ze_5_39, ze_5_40, ze_5_41, ze_5_42, ze_5_43, ze_5_44, ze_5_45, ze_5_48, ze_5_49, ze_5_52, ze_5_53, ze_5_56, ze_5_57, ze_5_58, ze_5_59, ze_5_60, ze_5_61, ze_5_62, ze_5_63, ze_5_63_i, ze_5_64, ze_5_67, ze_5_68, ze_5_69, ze_5_72, ze_5_75, ze_5_81, ze_5_84, ze_5_85, ze_5_86, ze_5_87, ze_5_90, z_gI, z_gR, z_pF, z_aL, z_aS, z_gO, z_k_r, z_push_s, z_push_n, okS_0, okS_I, okS_R, okS_A, List.getElem?_cons_zero, List.getElem?_cons_succ, List.length_cons, List.length_nil, List.set_cons_zero, List.set_cons_succ, true_and, and_true, z_tI, z_tB, pk_mul, nI_add, cI_cl, cI_ix, arr_at, arr_upd, nar_0, nar_1, nar_b, Nat.reduceAdd, Nat.reduceLT, Nat.reduceMul, cI_lt, cI_eq, ↓reduceIte, if_true, if_false, Nat.lt_irrefl, eq_self, Nat.reduceEqDiff, or_true, true_or, or_false, not_false_eq_true, not_true_eq_false, ce_5, zb_t, zb_f, cw_0, cw_7, cw_g0, cw_g1, cw_u0, cw_u7, upd_nI, hj, e5, e, p2]
    · obtain ⟨ol', n', p1, p2⟩ := k_list1 (L := L) hg hr k (j + 1) n ol (by omega) (PRE_skip h1 (by omega) fun x x1 x2 => by
        have : x = r * 5 + j := by omega
        rw [this]
        exact fun z => e z.2)
      refine ⟨ol', n', p1, fun q P => ?_⟩
      rw [ze_5_20]
      simp (disch := omega) only [ze_5_0, ze_5_1, ze_5_2, ze_5_5, ze_5_6, ze_5_7, ze_5_8, ze_5_9, ze_5_12, ze_5_15, ze_5_18, ze_5_19, ze_5_21, ze_5_22, ze_5_25, ze_5_28, ze_5_31, ze_5_32, ze_5_35, ze_5_38, ze_5_39, ze_5_40, ze_5_41, ze_5_42, ze_5_43, ze_5_44, ze_5_45, ze_5_48, ze_5_49, ze_5_52, ze_5_53, ze_5_56, ze_5_57, ze_5_58, ze_5_59, ze_5_60, ze_5_61, ze_5_62, ze_5_63, ze_5_63_i, ze_5_64, ze_5_67, ze_5_68, ze_5_69, ze_5_72, ze_5_75, ze_5_81, ze_5_84, ze_5_85, ze_5_86, ze_5_87, ze_5_90, z_gI, z_gR, z_pF, z_aL, z_aS, z_gO, z_k_r, z_push_s, z_push_n, okS_0, okS_I, okS_R, okS_A, List.getElem?_cons_zero, List.getElem?_cons_succ, List.length_cons, List.length_nil, List.set_cons_zero, List.set_cons_succ, true_and, and_true, z_tI, z_tB, pk_mul, nI_add, cI_cl, cI_ix, arr_at, arr_upd, nar_0, nar_1, nar_b, Nat.reduceAdd, Nat.reduceLT, Nat.reduceMul, cI_lt, cI_eq, ↓reduceIte, if_true, if_false, Nat.lt_irrefl, eq_self, Nat.reduceEqDiff, or_true, true_or, or_false, not_false_eq_true, not_true_eq_false, ce_5, zb_t, zb_f, cw_0, cw_7, cw_g0, cw_g1, cw_u0, cw_u7, upd_nI, hj, e5, e, p2]
theorem k_list2 (hg : GI T) {L : Int32} : ∀ (k r n : Nat) (ol : Nat → Nat), r + k = T.R → PRE T ol n (r * 5) → ∃ ol' n', PRE T ol' n' 25 ∧ ∀ (q : Option Nat × Nat × Nat) (P : z_Res → Prop) (v : Value), ∃ v', z_T g d 5 7 [.ref b, .int L, .int (nI r), v] [] (cw f b a T ol n, q) P = z_T g d 5 84 [.ref b, .int L, .int (nI T.R), v'] [] (cw f b a T ol' n', q) P
  | 0, r, n, ol, h, h1 => by
    have : r = T.R := by omega
    subst this
    have hC := hg.C5
    have hRC := hg.RC
    refine ⟨ol, n, PRE_skip h1 (by omega) fun k x1 x2 ⟨z1, z2⟩ => ?_, fun q P v => ⟨v, ?_⟩⟩
    · unfold inR at z1
      simp only [Bool.and_eq_true, decide_eq_true_eq] at z1
      omega
    · rw [ze_5_7]
      simp (disch := omega) only [ze_5_0, ze_5_1, ze_5_2, ze_5_5, ze_5_6, ze_5_8, ze_5_9, ze_5_12, ze_5_15, ze_5_18, ze_5_19, ze_5_21, ze_5_22, ze_5_25, ze_5_28, ze_5_31, ze_5_32, ze_5_35, ze_5_38, ze_5_39, ze_5_40, ze_5_41, ze_5_42, ze_5_43, ze_5_44, ze_5_45, ze_5_48, ze_5_49, ze_5_52, ze_5_53, ze_5_56, ze_5_57, ze_5_58, ze_5_59, ze_5_60, ze_5_61, ze_5_62, ze_5_63, ze_5_63_i, ze_5_64, ze_5_67, ze_5_68, ze_5_69, ze_5_72, ze_5_75, ze_5_78, ze_5_81, ze_5_85, ze_5_86, ze_5_87, ze_5_90, z_gI, z_gR, z_pF, z_aL, z_aS, z_gO, z_k_r, z_push_s, z_push_n, okS_0, okS_I, okS_R, okS_A, List.getElem?_cons_zero, List.getElem?_cons_succ, List.length_cons, List.length_nil, List.set_cons_zero, List.set_cons_succ, true_and, and_true, z_tI, z_tB, pk_mul, nI_add, cI_cl, cI_ix, arr_at, arr_upd, nar_0, nar_1, nar_b, Nat.reduceAdd, Nat.reduceLT, Nat.reduceMul, cI_lt, cI_eq, ↓reduceIte, if_true, if_false, Nat.lt_irrefl, eq_self, Nat.reduceEqDiff, or_true, true_or, or_false, not_false_eq_true, not_true_eq_false, ce_5, zb_t, zb_f, cw_0, cw_7, cw_g0, cw_g1, cw_u0, cw_u7, upd_nI]
  | k + 1, r, n, ol, h, h1 => by
    have hC := hg.C5
    have hRC := hg.RC
    have hr : r < T.R := by omega
    obtain ⟨ol1, n1, p1, p2⟩ := k_list1 (g := g) (d := d) (f := f) (a := a) (b := b) (L := L) hg hr T.C 0 n ol (by omega) h1
    obtain ⟨ol2, n2, q1, q2⟩ := k_list2 (L := L) hg k (r + 1) n1 ol1 (by omega) (PRE_skip p1 (by omega) fun x x1 x2 ⟨z1, z2⟩ => by
      unfold inR at z1
      simp only [Bool.and_eq_true, decide_eq_true_eq] at z1
      omega)
    refine ⟨ol2, n2, q1, fun q P v => ?_⟩
    obtain ⟨v', hv⟩ := q2 q P (.int (nI T.C))
    refine ⟨v', ?_⟩
    rw [← hv, ze_5_7]
    simp (disch := omega) only [ze_5_0, ze_5_1, ze_5_2, ze_5_5, ze_5_6, ze_5_8, ze_5_9, ze_5_12, ze_5_15, ze_5_18, ze_5_19, ze_5_21, ze_5_22, ze_5_25, ze_5_28, ze_5_31, ze_5_32, ze_5_35, ze_5_38, ze_5_39, ze_5_40, ze_5_41, ze_5_42, ze_5_43, ze_5_44, ze_5_45, ze_5_48, ze_5_49, ze_5_52, ze_5_53, ze_5_56, ze_5_57, ze_5_58, ze_5_59, ze_5_60, ze_5_61, ze_5_62, ze_5_63, ze_5_63_i, ze_5_64, ze_5_67, ze_5_68, ze_5_69, ze_5_72, ze_5_75, ze_5_78, ze_5_81, ze_5_84, ze_5_85, ze_5_86, ze_5_87, ze_5_90, z_gI, z_gR, z_pF, z_aL, z_aS, z_gO, z_k_r, z_push_s, z_push_n, okS_0, okS_I, okS_R, okS_A, List.getElem?_cons_zero, List.getElem?_cons_succ, List.length_cons, List.length_nil, List.set_cons_zero, List.set_cons_succ, true_and, and_true, z_tI, z_tB, pk_mul, nI_add, cI_cl, cI_ix, arr_at, arr_upd, nar_0, nar_1, nar_b, Nat.reduceAdd, Nat.reduceLT, Nat.reduceMul, cI_lt, cI_eq, ↓reduceIte, if_true, if_false, Nat.lt_irrefl, eq_self, Nat.reduceEqDiff, or_true, true_or, or_false, not_false_eq_true, not_true_eq_false, ce_5, zb_t, zb_f, cw_0, cw_7, cw_g0, cw_g1, cw_u0, cw_u7, upd_nI, hr, p2]
theorem k_count (hg : GI T) (hd : 30 < d) {L : Nat} (hL : 0 < L) (hL2 : L ≤ 1000) (ol : Nat → Nat) (n : Nat) : ∃ ol' n', ∀ (q : Option Nat × Nat × Nat) (P : z_Res → Prop), z_Ca g d 5 [.ref b, .int (nI L)] (cw f b a T ol n, q) P = P (.inr (some (.int (nI (min L T.cn)))), (cw f b a T ol' n', q)) := by
  have hd0 : 0 < d := by omega
  obtain ⟨ol1, n1, p1, p2⟩ := k_list2 (g := g) (d := d) (f := f) (a := a) (b := b) (L := nI L) hg T.R 0 0 ol (by omega) ⟨by omega, fun i hi => by omega, fun i j hi => by omega, fun k hk => by omega⟩
  obtain ⟨ol2, r1, r2, r3⟩ := k_from (g := g) (f := f) (a := a) (b := b) (n := n1) p1.1 n1 (d - 1) 0 T ol1 L (by omega) (by have := p1.1; omega) ⟨fun i _ hi => p1.2.1 i hi, fun i j _ hi _ hj e => p1.2.2.1 i j hi hj e, fun k x1 x2 x3 => by obtain ⟨i, y1, y2⟩ := p1.2.2.2 k x1 x2 x3; exact ⟨i, by omega, y1, y2⟩⟩ hg hL hL2
  refine ⟨ol2, n1, fun q P => ?_⟩
  obtain ⟨v', hv⟩ := p2 q P z_un
  rw [zn_5]
  simp (disch := omega) only [ze_5_0, ze_5_1, ze_5_2, ze_5_5, ze_5_6, ze_5_8, ze_5_9, ze_5_12, ze_5_15, ze_5_18, ze_5_19, ze_5_20, ze_5_21, ze_5_22, ze_5_25, ze_5_28, ze_5_31, ze_5_32, ze_5_35, ze_5_38, ze_5_39, ze_5_40, ze_5_41, ze_5_42, ze_5_43, ze_5_44, ze_5_45, ze_5_48, ze_5_49, ze_5_52, ze_5_53, ze_5_56, ze_5_57, ze_5_58, ze_5_59, ze_5_60, ze_5_61, ze_5_62, ze_5_63, ze_5_63_i, ze_5_64, ze_5_67, ze_5_68, ze_5_69, ze_5_72, ze_5_75, ze_5_78, ze_5_81, ze_5_85, ze_5_86, ze_5_87, ze_5_90, z_gI, z_gR, z_pF, z_aL, z_aS, z_gO, z_k_r, z_push_s, z_push_n, okS_0, okS_I, okS_R, okS_A, List.getElem?_cons_zero, List.getElem?_cons_succ, List.length_cons, List.length_nil, List.set_cons_zero, List.set_cons_succ, true_and, and_true, z_tI, z_tB, pk_mul, nI_add, cI_cl, cI_ix, arr_at, arr_upd, nar_0, nar_1, nar_b, Nat.reduceAdd, Nat.reduceLT, Nat.reduceMul, cI_lt, cI_eq, ↓reduceIte, if_true, if_false, Nat.lt_irrefl, eq_self, Nat.reduceEqDiff, or_true, true_or, or_false, not_false_eq_true, not_true_eq_false, ce_5, zb_t, zb_f, cw_0, cw_7, cw_g0, cw_g1, cw_u0, cw_u7, upd_nI]
  rw [hv]
  simp (disch := omega) only [ze_5_0, ze_5_1, ze_5_2, ze_5_5, ze_5_6, ze_5_8, ze_5_9, ze_5_12, ze_5_15, ze_5_18, ze_5_19, ze_5_20, ze_5_21, ze_5_22, ze_5_25, ze_5_28, ze_5_31, ze_5_32, ze_5_35, ze_5_38, ze_5_39, ze_5_40, ze_5_41, ze_5_42, ze_5_43, ze_5_44, ze_5_45, ze_5_48, ze_5_49, ze_5_52, ze_5_53, ze_5_56, ze_5_57, ze_5_58, ze_5_59, ze_5_60, ze_5_61, ze_5_62, ze_5_63, ze_5_63_i, ze_5_64, ze_5_67, ze_5_68, ze_5_69, ze_5_72, ze_5_75, ze_5_78, ze_5_81, ze_5_84, ze_5_85, ze_5_86, ze_5_87, ze_5_90, z_gI, z_gR, z_pF, z_aL, z_aS, z_gO, z_k_r, z_push_s, z_push_n, okS_0, okS_I, okS_R, okS_A, List.getElem?_cons_zero, List.getElem?_cons_succ, List.length_cons, List.length_nil, List.set_cons_zero, List.set_cons_succ, true_and, and_true, z_tI, z_tB, pk_mul, nI_add, cI_cl, cI_ix, arr_at, arr_upd, nar_0, nar_1, nar_b, Nat.reduceAdd, Nat.reduceLT, Nat.reduceMul, cI_lt, cI_eq, ↓reduceIte, if_true, if_false, Nat.lt_irrefl, eq_self, Nat.reduceEqDiff, or_true, true_or, or_false, not_false_eq_true, not_true_eq_false, ce_5, zb_t, zb_f, cw_0, cw_7, cw_g0, cw_g1, cw_u0, cw_u7, upd_nI, hd0, r3]
end
