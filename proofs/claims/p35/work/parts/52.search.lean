/-! the search: its object, its work, its list of empty cells -/
def cwO (a b n : Nat) : z_C := .inr (0, [.ref a, .ref (b + 1), .ref (b + 7), .int (nI n)])
def cwF (f : Nat → Option z_C) (b a : Nat) (ol : Nat → Nat) (n : Nat) : Nat → Option z_C := z_up (z_up f (b + 7) (.inl (.int, 25, .inl (arr 25 fun i => nI (ol i))))) b (cwO a b n)
def cw (f : Nat → Option z_C) (b a : Nat) (T : GS) (ol : Nat → Nat) (n : Nat) : Nat → Option z_C := gw (cwF f b a ol n) (b + 1) T.w
section
variable (f : Nat → Option z_C) (b a : Nat) (T : GS) (ol : Nat → Nat) (n : Nat)
theorem cw_0 : cw f b a T ol n b = some (.inr (0, [.ref a, .ref (b + 1), .ref (b + 7), .int (nI n)])) := (gw_ne _ _ _ (by omega)).trans (z_up_self _ _ _)
theorem cw_7 : cw f b a T ol n (b + 7) = some (.inl (.int, 25, .inl (arr 25 fun i => nI (ol i)))) := (gw_ne _ _ _ (by omega)).trans ((z_up_ne (by omega)).trans (z_up_self _ _ _))
theorem cw_g0 : cw f b a T ol n (b + 1) = some (.inr (3, [.ref (b + 1 + 1), .ref (b + 1 + 2), .ref (b + 1 + 3), .ref (b + 1 + 4), .ref (b + 1 + 5), .int (nI T.R), .int (nI T.C), .int (nI (nF T.c 25)), .int (nI T.G), .int (nI T.N)])) := gw_0 _ _ _
theorem cw_g1 : cw f b a T ol n (b + 1 + 1) = some (.inl (.int, 25, .inl (arr 25 fun k => ce (T.c k)))) := gw_1 _ _ _
theorem cw_u0 (n' : Nat) : z_up (cw f b a T ol n) b (.inr (0, [.ref a, .ref (b + 1), .ref (b + 7), .int (nI n')])) = cw f b a T ol n' := by
  unfold cw gw
  rw [ow_upo _ (by omega)]
  unfold cwF
  rw [z_up_up]
  rfl
theorem z_up_comm (f : Nat → Option z_C) {x y : Nat} (u v : z_C) (h : x ≠ y) : z_up (z_up f x u) y v = z_up (z_up f y v) x u := by
  funext j
  unfold z_up
  by_cases e : j = y
  · rw [if_pos e, if_neg (by omega), if_pos e]
  · rw [if_neg e]
    by_cases e2 : j = x
    · rw [if_pos e2, if_pos e2]
    · rw [if_neg e2, if_neg e2, if_neg e]
theorem cw_u7 (x : Nat → Nat) : z_up (cw f b a T ol n) (b + 7) (.inl (.int, 25, .inl (arr 25 fun i => nI (x i)))) = cw f b a T x n := by
  unfold cw gw
  rw [ow_upo _ (by omega)]
  unfold cwF
  rw [z_up_comm _ _ _ (by omega), z_up_up]
theorem upd_nI (x : Nat → Nat) (k s : Nat) : upd (fun i => nI (x i)) k (nI s) = fun i => nI (nu x k s i) := by
  funext j
  simp only [upd, nu]
  by_cases h : j = k
  · simp [h]
  · simp [h]
end
theorem GI_put {T : GS} (hg : GI T) {r j s : Nat} (hr : r < T.R) (hj : j < T.C) (h : T.cd r j s = true) : GI (T.put r j s) := by
  have hC := hg.C5
  have hRC := hg.RC
  unfold GS.cd at h
  simp only [Bool.and_eq_true, decide_eq_true_eq, Bool.not_eq_true'] at h
  obtain ⟨⟨⟨⟨h1, h2⟩, h3⟩, h4⟩, h5⟩ := h
  have nr : ∀ j', j' < 5 → T.c (r * 5 + j') ≠ s := fun j' z e => by
    have := (rU_iff T.c r s).mpr ⟨j', z, e⟩
    rw [h3] at this
    cases this
  have nc : ∀ r', r' < 5 → T.c (r' * 5 + j) ≠ s := fun r' z e => by
    have := (cU_iff T.c j s).mpr ⟨by omega, r', z, e⟩
    rw [h4] at this
    cases this
  have cc : (T.put r j s).c = nu T.c (r * 5 + j) s := rfl
  refine ⟨hg.R1, hg.RC, hg.C2, hg.C5, fun k => ?_, fun k hk => ?_, fun r' j' a1 a2 a3 => ?_, fun r' j' j'' a1 a2 a3 a4 a5 => ?_, fun r' r'' j' a1 a2 a3 a4 a5 => ?_⟩
  · rw [cc]
    unfold nu
    split
    · omega
    · exact hg.c5 k
  · rw [cc] at hk ⊢
    unfold nu at hk ⊢
    by_cases e : k = r * 5 + j
    · rw [if_pos e]; exact h1
    · rw [if_neg e] at hk ⊢; exact hg.sy k hk
  · rw [cc]
    have a3' : T.R ≤ r' ∨ T.C ≤ j' := a3
    rw [nu_n (by omega)]
    exact hg.out r' j' a1 a2 a3'
  · rw [cc] at a4 a5
    by_cases e1 : r' = r
    · subst e1
      by_cases e2 : j' = j
      · subst e2
        rw [nu_s] at a4
        by_cases e3 : j'' = j'
        · exact e3.symm
        · rw [nu_n (by omega)] at a4
          exact absurd a4.symm (nr j'' a3)
      · rw [nu_n (by omega)] at a4 a5
        by_cases e3 : j'' = j
        · subst e3
          rw [nu_s] at a4
          exact absurd a4 (nr j' a2)
        · rw [nu_n (by omega)] at a4
          exact hg.row r' j' j'' a1 a2 a3 a4 a5
    · rw [nu_n (by omega)] at a4 a5
      rw [nu_n (by omega)] at a4
      exact hg.row r' j' j'' a1 a2 a3 a4 a5
  · rw [cc] at a4 a5
    by_cases e1 : j' = j
    · subst e1
      by_cases e2 : r' = r
      · subst e2
        rw [nu_s] at a4
        by_cases e3 : r'' = r'
        · exact e3.symm
        · rw [nu_n (by omega)] at a4
          exact absurd a4.symm (nc r'' a2)
      · rw [nu_n (by omega)] at a4 a5
        by_cases e3 : r'' = r
        · subst e3
          rw [nu_s] at a4
          exact absurd a4 (nc r' a1)
        · rw [nu_n (by omega)] at a4
          exact hg.col r' r'' j' a1 a2 a3 a4 a5
    · rw [nu_n (by omega)] at a4 a5
      rw [nu_n (by omega)] at a4
      exact hg.col r' r'' j' a1 a2 a3 a4 a5
theorem put_take {T : GS} {r j s : Nat} (h : T.c (r * 5 + j) = 5) : (T.put r j s).take r j = T := by
  have : nu (nu T.c (r * 5 + j) s) (r * 5 + j) 5 = T.c := by
    funext k
    unfold nu
    by_cases e : k = r * 5 + j
    · rw [if_pos e, e, h]
    · rw [if_neg e, if_neg e]
  show (nu (nu T.c (r * 5 + j) s) (r * 5 + j) 5, T.gv, T.b, T.R, T.C, T.G, T.N) = T
  rw [this]
  rfl
/-- the best place from i on -/
def bt (F : Nat → Nat) : Nat → Nat → Nat → Nat → Nat
  | 0, _, best, _ => best
  | k + 1, i, best, few => if 1 < few then (if F i < few then bt F k (i + 1) i (F i) else bt F k (i + 1) best few) else best
theorem bt_in (F : Nat → Nat) {lo hi : Nat} : ∀ (k i best few : Nat), i + k = hi → lo ≤ i → lo ≤ best → best < hi → lo ≤ bt F k i best few ∧ bt F k i best few < hi
  | 0, i, best, few, h, h1, h2, h3 => ⟨h2, h3⟩
  | k + 1, i, best, few, h, h1, h2, h3 => by
    unfold bt
    split
    · split
      · exact bt_in F k (i + 1) i _ (by omega) (by omega) h1 (by omega)
      · exact bt_in F k (i + 1) best few (by omega) (by omega) h2 h3
    · exact ⟨h2, h3⟩
section
variable {g : z_G} {d : Nat} {f : Nat → Option z_C} {q : Option Nat × Nat × Nat} {P : z_Res → Prop} {a b n : Nat} {T : GS} {ol : Nat → Nat}
theorem k_cand (hc : ∀ k, T.c k ≤ 5) (hC : T.C ≤ 5) {r j : Nat} (hr : r < 5) (hj : j < 5) : z_Ca g d 34 [.ref (b + 1), .int (nI r), .int (nI j)] (cw f b a T ol n, q) P = P (.inr (some (.int (sS (T.cd r j)))), (cw f b a T ol n, q)) := s_cand hc hC hr hj
theorem k_bring1 (hc : ∀ k, T.c k ≤ 5) (hC : T.C ≤ 5) (hd : 0 < d) (hn : n ≤ 25) {pl : Nat} (ho : ∀ i, pl ≤ i → i < n → ol i < 25) {E : Nat → Prop} (hO : ∀ t u v w, pl ≤ t → t < n → z_T g d 7 70 [.ref b, .int (nI pl), .int (nI t), u, v, w] [] (cw f b a T ol n, q) P = E t) : ∀ (k i best few : Nat) (w : Value), i + k = n → pl ≤ i → few < 10 → pl ≤ best → best < n → z_T g d 7 8 [.ref b, .int (nI pl), .int (nI best), .int (nI few), .int (nI i), w] [] (cw f b a T ol n, q) P = E (bt (fun i => pop (T.cd (ol i / 5) (ol i - ol i / 5 * 5))) k i best few)
  | 0, i, best, few, w, h, h1, h2, h3, h4 => by
    have : i = n := by omega
    subst this
    rw [ze_7_8]
    simp (disch := omega) only [ze_7_0, ze_7_1, ze_7_2, ze_7_4, ze_7_5, ze_7_6, ze_7_10, ze_7_11, ze_7_14, ze_7_17, ze_7_18, ze_7_19, ze_7_22, ze_7_23, ze_7_26, ze_7_27, ze_7_30, ze_7_32, ze_7_33, ze_7_34, ze_7_35, ze_7_36, ze_7_39, ze_7_41, ze_7_42, ze_7_43, ze_7_44, ze_7_47, ze_7_50, ze_7_52, ze_7_54, ze_7_55, ze_7_58, ze_7_60, ze_7_61, ze_7_63, ze_7_64, ze_7_67, ze_7_71, ze_7_74, ze_7_75, ze_7_76, ze_7_78, ze_7_79, ze_7_82, ze_7_83, ze_7_84, ze_7_87, ze_7_88, ze_7_89, ze_7_90, ze_7_91, ze_7_94, ze_7_95, ze_7_97, ze_7_98, ze_7_100, z_gI, z_gR, z_pF, z_aL, z_aS, z_gO, z_k_r, z_push_s, z_push_n, okS_0, okS_I, okS_R, okS_A, List.getElem?_cons_zero, List.getElem?_cons_succ, List.length_cons, List.length_nil, List.set_cons_zero, List.set_cons_succ, true_and, and_true, z_tI, z_tB, pk_mul, nI_add, cI_cl, cI_ix, arr_at, arr_upd, nar_0, nar_1, nar_b, Nat.reduceAdd, Nat.reduceLT, Nat.reduceMul, cI_lt, cI_eq, ↓reduceIte, if_true, if_false, Nat.lt_irrefl, eq_self, Nat.reduceEqDiff, or_true, true_or, or_false, not_false_eq_true, not_true_eq_false, ce_5, zb_t, zb_f, cw_0, cw_7, cw_g0, cw_g1, cw_u0, cw_u7, upd_nI]
    rw [hO _ _ _ _ h3 h4]
    rfl
  | k + 1, i, best, few, w, h, h1, h2, h3, h4 => by
    have hi : i < n := by omega
    have ho' := ho i h1 hi
    have hp := pop_lt (T.cd (ol i / 5) (ol i - ol i / 5 * 5))
    rw [ze_7_8]
    simp (disch := omega) only [ze_7_0, ze_7_1, ze_7_2, ze_7_4, ze_7_5, ze_7_6, ze_7_10, ze_7_11, ze_7_14, ze_7_17, ze_7_18, ze_7_19, ze_7_22, ze_7_23, ze_7_26, ze_7_27, ze_7_30, ze_7_32, ze_7_33, ze_7_34, ze_7_35, ze_7_36, ze_7_39, ze_7_41, ze_7_42, ze_7_43, ze_7_44, ze_7_47, ze_7_50, ze_7_52, ze_7_54, ze_7_55, ze_7_58, ze_7_60, ze_7_61, ze_7_63, ze_7_64, ze_7_67, ze_7_71, ze_7_74, ze_7_75, ze_7_76, ze_7_78, ze_7_79, ze_7_82, ze_7_83, ze_7_84, ze_7_87, ze_7_88, ze_7_89, ze_7_90, ze_7_91, ze_7_94, ze_7_95, ze_7_97, ze_7_98, ze_7_100, z_gI, z_gR, z_pF, z_aL, z_aS, z_gO, z_k_r, z_push_s, z_push_n, okS_0, okS_I, okS_R, okS_A, List.getElem?_cons_zero, List.getElem?_cons_succ, List.length_cons, List.length_nil, List.set_cons_zero, List.set_cons_succ, true_and, and_true, z_tI, z_tB, pk_mul, nI_add, cI_cl, cI_ix, arr_at, arr_upd, nar_0, nar_1, nar_b, Nat.reduceAdd, Nat.reduceLT, Nat.reduceMul, cI_lt, cI_eq, ↓reduceIte, if_true, if_false, Nat.lt_irrefl, eq_self, Nat.reduceEqDiff, or_true, true_or, or_false, not_false_eq_true, not_true_eq_false, ce_5, zb_t, zb_f, cw_0, cw_7, cw_g0, cw_g1, cw_u0, cw_u7, upd_nI, hi]
    unfold bt
    by_cases e : 1 < few
    · simp (disch := omega) only [e, cI_lt, cI_eq, ↓reduceIte, if_true, if_false, Nat.lt_irrefl, eq_self, Nat.reduceEqDiff, or_true, true_or, or_false, not_false_eq_true, not_true_eq_false, ce_5, zb_t, zb_f, ze_7_0, ze_7_1, ze_7_2, ze_7_4, ze_7_5, ze_7_6, ze_7_10, ze_7_11, ze_7_14, ze_7_17, ze_7_18, ze_7_19, ze_7_22, ze_7_23, ze_7_26, ze_7_27, ze_7_30, ze_7_32, ze_7_33, ze_7_34, ze_7_35, ze_7_36, ze_7_39, ze_7_41, ze_7_42, ze_7_43, ze_7_44, ze_7_47, ze_7_50, ze_7_52, ze_7_54, ze_7_55, ze_7_58, ze_7_60, ze_7_61, ze_7_63, ze_7_64, ze_7_67, ze_7_71, ze_7_74, ze_7_75, ze_7_76, ze_7_78, ze_7_79, ze_7_82, ze_7_83, ze_7_84, ze_7_87, ze_7_88, ze_7_89, ze_7_90, ze_7_91, ze_7_94, ze_7_95, ze_7_97, ze_7_98, ze_7_100, z_gI, z_gR, z_pF, z_aL, z_aS, z_gO, z_k_r, z_push_s, z_push_n, okS_0, okS_I, okS_R, okS_A, List.getElem?_cons_zero, List.getElem?_cons_succ, List.length_cons, List.length_nil, List.set_cons_zero, List.set_cons_succ, true_and, and_true, z_tI, z_tB, pk_mul, nI_add, cI_cl, cI_ix, arr_at, arr_upd, nar_0, nar_1, nar_b, Nat.reduceAdd, Nat.reduceLT, Nat.reduceMul, cw_0, cw_7, cw_g0, cw_g1, cw_u0, cw_u7, upd_nI, cI_div, cI_sub, k_cand hc hC, s_bitCount, hd]
      by_cases e2 : pop (T.cd (ol i / 5) (ol i - ol i / 5 * 5)) < few
      · simp (disch := omega) only [e2, cI_lt, cI_eq, ↓reduceIte, if_true, if_false, Nat.lt_irrefl, eq_self, Nat.reduceEqDiff, or_true, true_or, or_false, not_false_eq_true, not_true_eq_false, ce_5, zb_t, zb_f]
        rw [k_bring1 hc hC hd hn ho hO k (i + 1) i _ _ (by omega) (by omega) (by omega) h1 hi]
      · simp (disch := omega) only [e2, cI_lt, cI_eq, ↓reduceIte, if_true, if_false, Nat.lt_irrefl, eq_self, Nat.reduceEqDiff, or_true, true_or, or_false, not_false_eq_true, not_true_eq_false, ce_5, zb_t, zb_f]
        rw [k_bring1 hc hC hd hn ho hO k (i + 1) best few _ (by omega) (by omega) h2 h3 h4]
    · simp (disch := omega) only [e, cI_lt, cI_eq, ↓reduceIte, if_true, if_false, Nat.lt_irrefl, eq_self, Nat.reduceEqDiff, or_true, true_or, or_false, not_false_eq_true, not_true_eq_false, ce_5, zb_t, zb_f]
      rw [hO _ _ _ _ h3 h4]
def sw (ol : Nat → Nat) (i j : Nat) : Nat → Nat := nu (nu ol j (ol i)) i (ol j)
theorem k_bring (hc : ∀ k, T.c k ≤ 5) (hC : T.C ≤ 5) (hd : 0 < d) (hn : n ≤ 25) {pl : Nat} (hpl : pl < n) (ho : ∀ i, pl ≤ i → i < n → ol i < 25) : ∃ i0, pl ≤ i0 ∧ i0 < n ∧ ∀ (q : Option Nat × Nat × Nat) (P : z_Res → Prop), z_Ca g d 7 [.ref b, .int (nI pl)] (cw f b a T ol n, q) P = P (.inr (some (.int (nI (ol i0)))), (cw f b a T (sw ol pl i0) n, q)) := by
  have hb := bt_in (fun i => pop (T.cd (ol i / 5) (ol i - ol i / 5 * 5))) (lo := pl) (hi := n) (n - pl) pl pl 6 (by omega) (by omega) (by omega) hpl
  refine ⟨_, hb.1, hb.2, fun q P => ?_⟩
  rw [zn_7]
  simp (disch := omega) only [ze_7_0, ze_7_1, ze_7_2, ze_7_4, ze_7_5, ze_7_6, ze_7_10, ze_7_11, ze_7_14, ze_7_17, ze_7_18, ze_7_19, ze_7_22, ze_7_23, ze_7_26, ze_7_27, ze_7_30, ze_7_32, ze_7_33, ze_7_34, ze_7_35, ze_7_36, ze_7_39, ze_7_41, ze_7_42, ze_7_43, ze_7_44, ze_7_47, ze_7_50, ze_7_52, ze_7_54, ze_7_55, ze_7_58, ze_7_60, ze_7_61, ze_7_63, ze_7_64, ze_7_67, ze_7_70, ze_7_71, ze_7_74, ze_7_75, ze_7_76, ze_7_78, ze_7_79, ze_7_82, ze_7_83, ze_7_84, ze_7_87, ze_7_88, ze_7_89, ze_7_90, ze_7_91, ze_7_94, ze_7_95, ze_7_97, ze_7_98, ze_7_100, z_gI, z_gR, z_pF, z_aL, z_aS, z_gO, z_k_r, z_push_s, z_push_n, okS_0, okS_I, okS_R, okS_A, List.getElem?_cons_zero, List.getElem?_cons_succ, List.length_cons, List.length_nil, List.set_cons_zero, List.set_cons_succ, true_and, and_true, z_tI, z_tB, pk_mul, nI_add, cI_cl, cI_ix, arr_at, arr_upd, nar_0, nar_1, nar_b, Nat.reduceAdd, Nat.reduceLT, Nat.reduceMul, cI_lt, cI_eq, ↓reduceIte, if_true, if_false, Nat.lt_irrefl, eq_self, Nat.reduceEqDiff, or_true, true_or, or_false, not_false_eq_true, not_true_eq_false, ce_5, zb_t, zb_f, cw_0, cw_7, cw_g0, cw_g1, cw_u0, cw_u7, upd_nI]
  rw [k_bring1 hc hC hd hn ho (E := fun t => P (.inr (some (.int (nI (ol t)))), (cw f b a T (sw ol pl t) n, q))) _ (n - pl) pl pl 6 _ (by omega) (by omega) (by omega) (by omega) hpl]
  intro t u v w t1 t2
  have ht := ho t t1 t2
  simp (disch := omega) only [ze_7_0, ze_7_1, ze_7_2, ze_7_4, ze_7_5, ze_7_6, ze_7_10, ze_7_11, ze_7_14, ze_7_17, ze_7_18, ze_7_19, ze_7_22, ze_7_23, ze_7_26, ze_7_27, ze_7_30, ze_7_32, ze_7_33, ze_7_34, ze_7_35, ze_7_36, ze_7_39, ze_7_41, ze_7_42, ze_7_43, ze_7_44, ze_7_47, ze_7_50, ze_7_52, ze_7_54, ze_7_55, ze_7_58, ze_7_60, ze_7_61, ze_7_63, ze_7_64, ze_7_67, ze_7_70, ze_7_71, ze_7_74, ze_7_75, ze_7_76, ze_7_78, ze_7_79, ze_7_82, ze_7_83, ze_7_84, ze_7_87, ze_7_88, ze_7_89, ze_7_90, ze_7_91, ze_7_94, ze_7_95, ze_7_97, ze_7_98, ze_7_100, z_gI, z_gR, z_pF, z_aL, z_aS, z_gO, z_k_r, z_push_s, z_push_n, okS_0, okS_I, okS_R, okS_A, List.getElem?_cons_zero, List.getElem?_cons_succ, List.length_cons, List.length_nil, List.set_cons_zero, List.set_cons_succ, true_and, and_true, z_tI, z_tB, pk_mul, nI_add, cI_cl, cI_ix, arr_at, arr_upd, nar_0, nar_1, nar_b, Nat.reduceAdd, Nat.reduceLT, Nat.reduceMul, cI_lt, cI_eq, ↓reduceIte, if_true, if_false, Nat.lt_irrefl, eq_self, Nat.reduceEqDiff, or_true, true_or, or_false, not_false_eq_true, not_true_eq_false, ce_5, zb_t, zb_f, cw_0, cw_7, cw_g0, cw_g1, cw_u0, cw_u7, upd_nI]
  rfl
/-- the list holds the empty cells from a place on, each once -/
def OPN (T : GS) (ol : Nat → Nat) (pl n : Nat) : Prop := (∀ i, pl ≤ i → i < n → ol i < 25 ∧ inR T.R T.C (ol i) = true ∧ T.c (ol i) = 5) ∧ (∀ i j, pl ≤ i → i < n → pl ≤ j → j < n → ol i = ol j → i = j) ∧ (∀ k, k < 25 → inR T.R T.C k = true → T.c k = 5 → ∃ i, pl ≤ i ∧ i < n ∧ ol i = k)
theorem sw_1 (ol : Nat → Nat) (i j : Nat) : sw ol i j i = ol j := nu_s _ _ _
theorem sw_2 (ol : Nat → Nat) {i j : Nat} : sw ol i j j = ol i := by
  unfold sw
  by_cases e : j = i
  · rw [e, nu_s]
  · rw [nu_n e, nu_s]
theorem sw_3 (ol : Nat → Nat) {i j k : Nat} (h1 : k ≠ i) (h2 : k ≠ j) : sw ol i j k = ol k := by
  unfold sw
  rw [nu_n h1, nu_n h2]
theorem OPN_sw {T : GS} {ol : Nat → Nat} {pl n i0 : Nat} (h : OPN T ol pl n) (h1 : pl ≤ i0) (h2 : i0 < n) : OPN T (sw ol pl i0) pl n := by
  obtain ⟨a1, a2, a3⟩ := h
  have key : ∀ i, pl ≤ i → i < n → ∃ i', pl ≤ i' ∧ i' < n ∧ sw ol pl i0 i = ol i' ∧ (i' = if i = pl then i0 else if i = i0 then pl else i) := by
    intro i x1 x2
    by_cases e : i = pl
    · subst e
      exact ⟨i0, h1, h2, sw_1 _ _ _, (if_pos rfl).symm⟩
    · by_cases e2 : i = i0
      · subst e2
        exact ⟨pl, by omega, by omega, sw_2 _, by rw [if_neg e, if_pos rfl]⟩
      · exact ⟨i, x1, x2, sw_3 _ e e2, by rw [if_neg e, if_neg e2]⟩
  refine ⟨fun i x1 x2 => ?_, fun i j x1 x2 x3 x4 x5 => ?_, fun k x1 x2 x3 => ?_⟩
  · obtain ⟨i', y1, y2, y3, _⟩ := key i x1 x2
    rw [y3]
    exact a1 i' y1 y2
  · obtain ⟨i', y1, y2, y3, y4⟩ := key i x1 x2
    obtain ⟨j', z1, z2, z3, z4⟩ := key j x3 x4
    rw [y3, z3] at x5
    have := a2 i' j' y1 y2 z1 z2 x5
    rw [y4, z4] at this
    split at this <;> split at this <;> (try split at this) <;> (try split at this) <;> omega
  · obtain ⟨i, y1, y2, y3⟩ := a3 k x1 x2 x3
    by_cases e : i = pl
    · exact ⟨i0, h1, h2, by rw [sw_2, ← e, y3]⟩
    · by_cases e2 : i = i0
      · exact ⟨pl, by omega, by omega, by rw [sw_1, ← e2, y3]⟩
      · exact ⟨i, y1, y2, by rw [sw_3 _ e e2, y3]⟩
/-- with the first filled, the rest holds the rest -/
theorem OPN_put {T : GS} {ol : Nat → Nat} {pl n r j s : Nat} (h : OPN T ol pl n) (hn : pl < n) (e : ol pl = r * 5 + j) (hs : s ≠ 5) : OPN (T.put r j s) ol (pl + 1) n := by
  obtain ⟨a1, a2, a3⟩ := h
  refine ⟨fun i x1 x2 => ?_, fun i j x1 x2 x3 x4 x5 => a2 i j (by omega) x2 (by omega) x4 x5, fun k x1 x2 x3 => ?_⟩
  · obtain ⟨y1, y2, y3⟩ := a1 i (by omega) x2
    refine ⟨y1, y2, ?_⟩
    show nu T.c (r * 5 + j) s (ol i) = 5
    rw [nu_n, y3]
    intro z
    have := a2 i pl (by omega) x2 (by omega) hn (by rw [z, e])
    omega
  · have x3' : nu T.c (r * 5 + j) s k = 5 := x3
    have ne : k ≠ r * 5 + j := fun z => by
      rw [z, nu_s] at x3'
      exact hs x3'
    rw [nu_n ne] at x3'
    obtain ⟨i, y1, y2, y3⟩ := a3 k x1 x2 x3'
    refine ⟨i, ?_, y2, y3⟩
    have : i ≠ pl := fun z => ne (by rw [← y3, z, e])
    omega
/-- and back -/
theorem OPN_take {T : GS} {ol ol' : Nat → Nat} {pl n r j s : Nat} (h : OPN T ol pl n) (hn : pl < n) (e : ol pl = r * 5 + j) (e' : ol' pl = r * 5 + j) (h' : OPN (T.put r j s) ol' (pl + 1) n) (hs : s ≠ 5) : OPN T ol' pl n := by
  obtain ⟨a1, a2, a3⟩ := h
  obtain ⟨b1, b2, b3⟩ := h'
  have ne : ∀ i, pl + 1 ≤ i → i < n → ol' i ≠ r * 5 + j := fun i x1 x2 z => by
    have := (b1 i x1 x2).2.2
    have t : nu T.c (r * 5 + j) s (ol' i) = 5 := this
    rw [z, nu_s] at t
    exact hs t
  refine ⟨fun i x1 x2 => ?_, fun i j x1 x2 x3 x4 x5 => ?_, fun k x1 x2 x3 => ?_⟩
  · by_cases z : i = pl
    · rw [z, e', ← e]
      exact a1 pl (Nat.le_refl _) hn
    · obtain ⟨y1, y2, y3⟩ := b1 i (by omega) x2
      have y3' : nu T.c (r * 5 + j) s (ol' i) = 5 := y3
      rw [nu_n (ne i (by omega) x2)] at y3'
      exact ⟨y1, y2, y3'⟩
  · by_cases z : i = pl
    · by_cases z2 : j = pl
      · omega
      · subst z
        rw [e'] at x5
        exact absurd x5.symm (ne j (by omega) x4)
    · by_cases z2 : j = pl
      · subst z2
        rw [e'] at x5
        exact absurd x5 (ne i (by omega) x2)
      · exact b2 i j (by omega) x2 (by omega) x4 x5
  · by_cases z : k = r * 5 + j
    · exact ⟨pl, Nat.le_refl _, hn, by rw [e', z]⟩
    · obtain ⟨i, y1, y2, y3⟩ := b3 k x1 x2 (by
        show nu T.c (r * 5 + j) s k = 5
        rw [nu_n z]
        exact x3)
      exact ⟨i, by omega, y2, y3⟩
end
