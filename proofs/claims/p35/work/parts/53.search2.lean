/-! how many ways there are to fill the open cells -/
def GS.cn (T : GS) : Nat := cp T.R T.C T.b 25 0 T.c
theorem cdk_cd {T : GS} {r j s : Nat} (hj : j < 5) : cdk T.C T.b T.c (r * 5 + j) s = T.cd r j s := by
  unfold cdk GS.cd
  rw [show (r * 5 + j) / 5 = r by omega, show (r * 5 + j) % 5 = j by omega]
theorem inR_at {R C r j : Nat} (hj : j < 5) : inR R C (r * 5 + j) = (decide (r < R) && decide (j < C)) := by
  unfold inR
  rw [show (r * 5 + j) / 5 = r by omega, show (r * 5 + j) % 5 = j by omega]
/-- by any open cell -/
theorem cn_split {T : GS} (hg : GI T) {r j : Nat} (hr : r < T.R) (hj : j < T.C) (he : T.c (r * 5 + j) = 5) : T.cn = sm (fun s => if T.cd r j s = true then (T.put r j s).cn else 0) 0 T.C := by
  have hC := hg.C5
  have hRC := hg.RC
  unfold GS.cn
  rw [cp_ex hC 25 0 T.c (r * 5 + j) (by omega) (by omega) (by omega) (by rw [inR_at (by omega), decide_eq_true hr, decide_eq_true hj]; rfl) he]
  refine sm_congr _ _ fun s _ _ => ?_
  rw [cdk_cd (by omega)]
  rfl
theorem cn_done {T : GS} (h : ∀ k, k < 25 → ¬ (inR T.R T.C k = true ∧ T.c k = 5)) : T.cn = 1 := by
  unfold GS.cn
  rw [show 25 = 0 + 25 from rfl, cp_skip 25 0 0 (fun k _ hk => h k (by omega))]
  rfl
section
variable {g : z_G} {d : Nat} {f : Nat → Option z_C} {a b n : Nat} {T : GS}
theorem k_put {q : Option Nat × Nat × Nat} {P : z_Res → Prop} {ol : Nat → Nat} {r j s : Nat} (hr : r < 5) (hj : j < 5) (hs : s < 5) (he : T.c (r * 5 + j) = 5) : z_Ca g d 29 [.ref (b + 1), .int (nI r), .int (nI j), .int (nI s)] (cw f b a T ol n, q) P = P (.inr none, (cw f b a (T.put r j s) ol n, q)) := s_put hr hj hs he
theorem k_take {q : Option Nat × Nat × Nat} {P : z_Res → Prop} {ol : Nat → Nat} {r j s : Nat} (hg : GI T) (hr : r < T.R) (hj : j < T.C) (h : T.cd r j s = true) : z_Ca g d 30 [.ref (b + 1), .int (nI r), .int (nI j)] (cw f b a (T.put r j s) ol n, q) P = P (.inr none, (cw f b a T ol n, q)) := by
  have hC := hg.C5
  have hRC := hg.RC
  have hs := cd_lt h
  have gp := GI_put hg hr hj h
  have he : T.c (r * 5 + j) = 5 := by
    unfold GS.cd at h
    simp only [Bool.and_eq_true, decide_eq_true_eq] at h
    exact h.1.1.1.2
  have c1 : (T.put r j s).c (r * 5 + j) = s := nu_s _ _ _
  have := s_take (g := g) (d := d) (f := cwF f b a ol n) (q := q) (P := P) (a := b + 1) (S := T.put r j s) (r := r) (j := j) (by omega) (by omega) (by omega)
    (fun i hi e => (gp.row r j i (by omega) (by omega) hi e.symm (by omega)).symm)
    (fun i hi e => (gp.col r i j (by omega) hi (by omega) e.symm (by omega)).symm)
  rw [put_take he] at this
  exact this
theorem k_loop (hg : GI T) (hd : 1 < d) (hn : n ≤ 25) {dep L r j : Nat} (hdn : dep < n) (hL : 0 < L) (hL2 : L ≤ 1000) (hr : r < T.R) (hj : j < T.C) (he : T.c (r * 5 + j) = 5)
    (ih : ∀ (T' : GS) (ol : Nat → Nat) (L' : Nat), OPN T' ol (dep + 1) n → GI T' → 0 < L' → L' ≤ 1000 → ∃ ol', OPN T' ol' (dep + 1) n ∧ (∀ i, i < dep + 1 → ol' i = ol i) ∧ ∀ (q : Option Nat × Nat × Nat) (P : z_Res → Prop), z_Ca g (d - 1) 6 [.ref b, .int (nI (dep + 1)), .int (nI L')] (cw f b a T' ol n, q) P = P (.inr (some (.int (nI (min L' T'.cn)))), (cw f b a T' ol' n, q))) :
    ∀ (k s fd : Nat) (ol : Nat → Nat), s + k = T.C → fd ≤ L → OPN T ol dep n → ol dep = r * 5 + j → ∃ ol', OPN T ol' dep n ∧ (∀ i, i < dep → ol' i = ol i) ∧ ∀ (q : Option Nat × Nat × Nat) (P : z_Res → Prop), z_T g d 6 45 [.ref b, .int (nI dep), .int (nI L), .int (nI (r * 5 + j)), .int (nI r), .int (nI j), .int (sS (T.cd r j)), .int (nI fd), .int (nI s)] [] (cw f b a T ol n, q) P = P (.inr (some (.int (nI (min L (fd + sm (fun s => if T.cd r j s = true then (T.put r j s).cn else 0) s k))))), (cw f b a T ol' n, q))
  | 0, s, fd, ol, h, h1, h2, h3 => by
    have : s = T.C := by omega
    subst this
    have hC := hg.C5
    refine ⟨ol, h2, fun _ _ => rfl, fun q P => ?_⟩
    rw [ze_6_45]
    simp (disch := omega) only [ze_6_0, ze_6_1, ze_6_2, ze_6_5, ze_6_8, ze_6_9, ze_6_10, ze_6_11, ze_6_12, ze_6_15, ze_6_16, ze_6_17, ze_6_18, ze_6_19, ze_6_21, ze_6_22, ze_6_23, ze_6_24, ze_6_26, ze_6_27, ze_6_30, ze_6_32, ze_6_34, ze_6_37, ze_6_39, ze_6_40, ze_6_42, ze_6_43, ze_6_47, ze_6_48, ze_6_51, ze_6_54, ze_6_57, ze_6_59, ze_6_60, ze_6_63, ze_6_65, ze_6_67, ze_6_68, ze_6_69, ze_6_70, ze_6_73, ze_6_74, ze_6_77, ze_6_79, ze_6_81, ze_6_83, ze_6_86, ze_6_88, ze_6_89, ze_6_90, ze_6_91, ze_6_92, ze_6_93, ze_6_95, ze_6_96, ze_6_99, ze_6_100, ze_6_102, ze_6_103, ze_6_106, ze_6_108, ze_6_110, ze_6_113, ze_6_116, ze_6_119, ze_6_121, z_gI, z_gR, z_pF, z_aL, z_aS, z_gO, z_k_r, z_push_s, z_push_n, okS_0, okS_I, okS_R, okS_A, List.getElem?_cons_zero, List.getElem?_cons_succ, List.length_cons, List.length_nil, List.set_cons_zero, List.set_cons_succ, true_and, and_true, z_tI, z_tB, pk_mul, nI_add, cI_cl, cI_ix, arr_at, arr_upd, nar_0, nar_1, nar_b, Nat.reduceAdd, Nat.reduceLT, Nat.reduceMul, cI_lt, cI_eq, ↓reduceIte, if_true, if_false, Nat.lt_irrefl, eq_self, Nat.reduceEqDiff, or_true, true_or, or_false, not_false_eq_true, not_true_eq_false, ce_5, zb_t, zb_f, cw_0, cw_7, cw_g0, cw_g1, cw_u0, cw_u7, upd_nI, sm_z, Nat.add_zero]
    rw [show min L fd = fd by omega]
  | k + 1, s, fd, ol, h, h1, h2, h3 => by
    have hC := hg.C5
    have hRC := hg.RC
    have hs : s < T.C := by omega
    have hd0 : 0 < d := by omega
    by_cases e : fd < L
    · by_cases e2 : T.cd r j s = true
      · obtain ⟨ol1, o1, o2, o3⟩ := ih (T.put r j s) ol (L - fd) (OPN_put h2 hdn h3 (by omega)) (GI_put hg hr hj e2) (by omega) (by omega)
        have e1 : ol1 dep = r * 5 + j := by rw [o2 dep (by omega), h3]
        have O1 := OPN_take h2 hdn h3 e1 o1 (by omega)
        obtain ⟨ol2, p1, p2, p3⟩ := k_loop hg hd hn hdn hL hL2 hr hj he ih k (s + 1) (fd + min (L - fd) (T.put r j s).cn) ol1 (by omega) (by omega) O1 e1
        refine ⟨ol2, p1, fun i hi => by rw [p2 i hi, o2 i (by omega)], fun q P => ?_⟩
        rw [ze_6_45]
        simp (disch := omega) only [ze_6_0, ze_6_1, ze_6_2, ze_6_5, ze_6_8, ze_6_9, ze_6_10, ze_6_11, ze_6_12, ze_6_15, ze_6_16, ze_6_17, ze_6_18, ze_6_19, ze_6_21, ze_6_22, ze_6_23, ze_6_24, ze_6_26, ze_6_27, ze_6_30, ze_6_32, ze_6_34, ze_6_37, ze_6_39, ze_6_40, ze_6_42, ze_6_43, ze_6_47, ze_6_48, ze_6_51, ze_6_54, ze_6_57, ze_6_59, ze_6_60, ze_6_63, ze_6_65, ze_6_67, ze_6_68, ze_6_69, ze_6_70, ze_6_73, ze_6_74, ze_6_77, ze_6_79, ze_6_81, ze_6_83, ze_6_86, ze_6_88, ze_6_89, ze_6_90, ze_6_91, ze_6_92, ze_6_93, ze_6_95, ze_6_96, ze_6_99, ze_6_100, ze_6_102, ze_6_103, ze_6_106, ze_6_108, ze_6_110, ze_6_113, ze_6_116, ze_6_119, ze_6_121, z_gI, z_gR, z_pF, z_aL, z_aS, z_gO, z_k_r, z_push_s, z_push_n, okS_0, okS_I, okS_R, okS_A, List.getElem?_cons_zero, List.getElem?_cons_succ, List.length_cons, List.length_nil, List.set_cons_zero, List.set_cons_succ, true_and, and_true, z_tI, z_tB, pk_mul, nI_add, cI_cl, cI_ix, arr_at, arr_upd, nar_0, nar_1, nar_b, Nat.reduceAdd, Nat.reduceLT, Nat.reduceMul, cI_lt, cI_eq, ↓reduceIte, if_true, if_false, Nat.lt_irrefl, eq_self, Nat.reduceEqDiff, or_true, true_or, or_false, not_false_eq_true, not_true_eq_false, ce_5, zb_t, zb_f, cw_0, cw_7, cw_g0, cw_g1, cw_u0, cw_u7, upd_nI, hs, e, sS_bit, e2, zb_0, Bool.true_eq_false, k_put (T := T) (he := he), hd0, cI_sub, o3, k_take hg hr hj e2, p3, sm_s]
        rw [show min L (fd + min (L - fd) (T.put r j s).cn + sm (fun s => if T.cd r j s = true then (T.put r j s).cn else 0) (s + 1) k) = min L (fd + ((T.put r j s).cn + sm (fun s => if T.cd r j s = true then (T.put r j s).cn else 0) (s + 1) k)) by omega]
      · have e2' : T.cd r j s = false := by simpa using e2
        obtain ⟨ol2, p1, p2, p3⟩ := k_loop hg hd hn hdn hL hL2 hr hj he ih k (s + 1) fd ol (by omega) h1 h2 h3
        refine ⟨ol2, p1, p2, fun q P => ?_⟩
        rw [ze_6_45]
        simp (disch := omega) only [ze_6_0, ze_6_1, ze_6_2, ze_6_5, ze_6_8, ze_6_9, ze_6_10, ze_6_11, ze_6_12, ze_6_15, ze_6_16, ze_6_17, ze_6_18, ze_6_19, ze_6_21, ze_6_22, ze_6_23, ze_6_24, ze_6_26, ze_6_27, ze_6_30, ze_6_32, ze_6_34, ze_6_37, ze_6_39, ze_6_40, ze_6_42, ze_6_43, ze_6_47, ze_6_48, ze_6_51, ze_6_54, ze_6_57, ze_6_59, ze_6_60, ze_6_63, ze_6_65, ze_6_67, ze_6_68, ze_6_69, ze_6_70, ze_6_73, ze_6_74, ze_6_77, ze_6_79, ze_6_81, ze_6_83, ze_6_86, ze_6_88, ze_6_89, ze_6_90, ze_6_91, ze_6_92, ze_6_93, ze_6_95, ze_6_96, ze_6_99, ze_6_100, ze_6_102, ze_6_103, ze_6_106, ze_6_108, ze_6_110, ze_6_113, ze_6_116, ze_6_119, ze_6_121, z_gI, z_gR, z_pF, z_aL, z_aS, z_gO, z_k_r, z_push_s, z_push_n, okS_0, okS_I, okS_R, okS_A, List.getElem?_cons_zero, List.getElem?_cons_succ, List.length_cons, List.length_nil, List.set_cons_zero, List.set_cons_succ, true_and, and_true, z_tI, z_tB, pk_mul, nI_add, cI_cl, cI_ix, arr_at, arr_upd, nar_0, nar_1, nar_b, Nat.reduceAdd, Nat.reduceLT, Nat.reduceMul, cI_lt, cI_eq, ↓reduceIte, if_true, if_false, Nat.lt_irrefl, eq_self, Nat.reduceEqDiff, or_true, true_or, or_false, not_false_eq_true, not_true_eq_false, ce_5, zb_t, zb_f, cw_0, cw_7, cw_g0, cw_g1, cw_u0, cw_u7, upd_nI, hs, e, sS_bit, e2', zb_0, p3, sm_s, Bool.false_eq_true, Nat.zero_add]
    · refine ⟨ol, h2, fun _ _ => rfl, fun q P => ?_⟩
      rw [ze_6_45]
      simp (disch := omega) only [ze_6_0, ze_6_1, ze_6_2, ze_6_5, ze_6_8, ze_6_9, ze_6_10, ze_6_11, ze_6_12, ze_6_15, ze_6_16, ze_6_17, ze_6_18, ze_6_19, ze_6_21, ze_6_22, ze_6_23, ze_6_24, ze_6_26, ze_6_27, ze_6_30, ze_6_32, ze_6_34, ze_6_37, ze_6_39, ze_6_40, ze_6_42, ze_6_43, ze_6_47, ze_6_48, ze_6_51, ze_6_54, ze_6_57, ze_6_59, ze_6_60, ze_6_63, ze_6_65, ze_6_67, ze_6_68, ze_6_69, ze_6_70, ze_6_73, ze_6_74, ze_6_77, ze_6_79, ze_6_81, ze_6_83, ze_6_86, ze_6_88, ze_6_89, ze_6_90, ze_6_91, ze_6_92, ze_6_93, ze_6_95, ze_6_96, ze_6_99, ze_6_100, ze_6_102, ze_6_103, ze_6_106, ze_6_108, ze_6_110, ze_6_113, ze_6_116, ze_6_119, ze_6_121, z_gI, z_gR, z_pF, z_aL, z_aS, z_gO, z_k_r, z_push_s, z_push_n, okS_0, okS_I, okS_R, okS_A, List.getElem?_cons_zero, List.getElem?_cons_succ, List.length_cons, List.length_nil, List.set_cons_zero, List.set_cons_succ, true_and, and_true, z_tI, z_tB, pk_mul, nI_add, cI_cl, cI_ix, arr_at, arr_upd, nar_0, nar_1, nar_b, Nat.reduceAdd, Nat.reduceLT, Nat.reduceMul, cI_lt, cI_eq, ↓reduceIte, if_true, if_false, Nat.lt_irrefl, eq_self, Nat.reduceEqDiff, or_true, true_or, or_false, not_false_eq_true, not_true_eq_false, ce_5, zb_t, zb_f, cw_0, cw_7, cw_g0, cw_g1, cw_u0, cw_u7, upd_nI, hs, e]
      rw [show min L (fd + sm (fun s => if T.cd r j s = true then (T.put r j s).cn else 0) s (k + 1)) = fd by omega]
theorem k_from (hn : n ≤ 25) : ∀ (k d dep : Nat) (T : GS) (ol : Nat → Nat) (L : Nat), dep + k = n → k + 2 < d → OPN T ol dep n → GI T → 0 < L → L ≤ 1000 → ∃ ol', OPN T ol' dep n ∧ (∀ i, i < dep → ol' i = ol i) ∧ ∀ (q : Option Nat × Nat × Nat) (P : z_Res → Prop), z_Ca g d 6 [.ref b, .int (nI dep), .int (nI L)] (cw f b a T ol n, q) P = P (.inr (some (.int (nI (min L T.cn)))), (cw f b a T ol' n, q))
  | 0, d, dep, T, ol, L, h, hd, h1, h2, h3, h4 => by
    have : dep = n := by omega
    subst this
    refine ⟨ol, h1, fun _ _ => rfl, fun q P => ?_⟩
    have e1 : T.cn = 1 := cn_done fun k hk ⟨z1, z2⟩ => by
      obtain ⟨i, y1, y2, y3⟩ := h1.2.2 k hk z1 z2
      omega
    rw [zn_6]
    simp (disch := omega) only [ze_6_0, ze_6_1, ze_6_2, ze_6_5, ze_6_8, ze_6_9, ze_6_10, ze_6_11, ze_6_12, ze_6_15, ze_6_16, ze_6_17, ze_6_18, ze_6_19, ze_6_21, ze_6_22, ze_6_23, ze_6_24, ze_6_26, ze_6_27, ze_6_30, ze_6_32, ze_6_34, ze_6_37, ze_6_39, ze_6_40, ze_6_42, ze_6_43, ze_6_47, ze_6_48, ze_6_51, ze_6_54, ze_6_57, ze_6_59, ze_6_60, ze_6_63, ze_6_65, ze_6_67, ze_6_68, ze_6_69, ze_6_70, ze_6_73, ze_6_74, ze_6_77, ze_6_79, ze_6_81, ze_6_83, ze_6_86, ze_6_88, ze_6_89, ze_6_90, ze_6_91, ze_6_92, ze_6_93, ze_6_95, ze_6_96, ze_6_99, ze_6_100, ze_6_102, ze_6_103, ze_6_106, ze_6_108, ze_6_110, ze_6_113, ze_6_116, ze_6_119, ze_6_121, z_gI, z_gR, z_pF, z_aL, z_aS, z_gO, z_k_r, z_push_s, z_push_n, okS_0, okS_I, okS_R, okS_A, List.getElem?_cons_zero, List.getElem?_cons_succ, List.length_cons, List.length_nil, List.set_cons_zero, List.set_cons_succ, true_and, and_true, z_tI, z_tB, pk_mul, nI_add, cI_cl, cI_ix, arr_at, arr_upd, nar_0, nar_1, nar_b, Nat.reduceAdd, Nat.reduceLT, Nat.reduceMul, cI_lt, cI_eq, ↓reduceIte, if_true, if_false, Nat.lt_irrefl, eq_self, Nat.reduceEqDiff, or_true, true_or, or_false, not_false_eq_true, not_true_eq_false, ce_5, zb_t, zb_f, cw_0, cw_7, cw_g0, cw_g1, cw_u0, cw_u7, upd_nI]
    rw [e1, show min L 1 = 1 by omega]
  | k + 1, d, dep, T, ol, L, h, hd, h1, h2, h3, h4 => by
    have hC := h2.C5
    have hRC := h2.RC
    have hd0 : 0 < d := by omega
    have hdn : dep < n := by omega
    obtain ⟨i0, i1, i2, i3⟩ := k_bring (g := g) (d := d - 1) (f := f) (a := a) (b := b) (n := n) (T := T) (ol := ol) h2.c5 hC (by omega) hn hdn (fun i x1 x2 => (h1.1 i x1 x2).1)
    have O1 := OPN_sw h1 i1 i2
    obtain ⟨j1, j2, j3⟩ := h1.1 i0 i1 i2
    unfold inR at j2
    simp only [Bool.and_eq_true, decide_eq_true_eq] at j2
    have em : ol i0 - ol i0 / 5 * 5 = ol i0 % 5 := by omega
    have es : ol i0 / 5 * 5 + ol i0 % 5 = ol i0 := by omega
    have j3' : T.c (ol i0 / 5 * 5 + ol i0 % 5) = 5 := by rw [es]; exact j3
    obtain ⟨ol2, p1, p2, p3⟩ := k_loop (g := g) (f := f) (a := a) (b := b) (d := d) h2 (by omega) hn hdn h3 h4 j2.1 j2.2 j3'
      (fun T' ol' L' x1 x2 x3 x4 => k_from hn k (d - 1) (dep + 1) T' ol' L' (by omega) (by omega) x1 x2 x3 x4) T.C 0 0 (sw ol dep i0) (by omega) (by omega) O1 (by rw [sw_1, es])
    refine ⟨ol2, p1, fun i hi => by rw [p2 i hi, sw_3 _ (by omega) (by omega)], fun q P => ?_⟩
    rw [es] at p3
    rw [zn_6]
    simp (disch := omega) only [ze_6_0, ze_6_1, ze_6_2, ze_6_5, ze_6_8, ze_6_9, ze_6_10, ze_6_11, ze_6_12, ze_6_15, ze_6_16, ze_6_17, ze_6_18, ze_6_19, ze_6_21, ze_6_22, ze_6_23, ze_6_24, ze_6_26, ze_6_27, ze_6_30, ze_6_32, ze_6_34, ze_6_37, ze_6_39, ze_6_40, ze_6_42, ze_6_43, ze_6_47, ze_6_48, ze_6_51, ze_6_54, ze_6_57, ze_6_59, ze_6_60, ze_6_63, ze_6_65, ze_6_67, ze_6_68, ze_6_69, ze_6_70, ze_6_73, ze_6_74, ze_6_77, ze_6_79, ze_6_81, ze_6_83, ze_6_86, ze_6_88, ze_6_89, ze_6_90, ze_6_91, ze_6_92, ze_6_93, ze_6_95, ze_6_96, ze_6_99, ze_6_100, ze_6_102, ze_6_103, ze_6_106, ze_6_108, ze_6_110, ze_6_113, ze_6_116, ze_6_119, ze_6_121, z_gI, z_gR, z_pF, z_aL, z_aS, z_gO, z_k_r, z_push_s, z_push_n, okS_0, okS_I, okS_R, okS_A, List.getElem?_cons_zero, List.getElem?_cons_succ, List.length_cons, List.length_nil, List.set_cons_zero, List.set_cons_succ, true_and, and_true, z_tI, z_tB, pk_mul, nI_add, cI_cl, cI_ix, arr_at, arr_upd, nar_0, nar_1, nar_b, Nat.reduceAdd, Nat.reduceLT, Nat.reduceMul, cI_lt, cI_eq, ↓reduceIte, if_true, if_false, Nat.lt_irrefl, eq_self, Nat.reduceEqDiff, or_true, true_or, or_false, not_false_eq_true, not_true_eq_false, ce_5, zb_t, zb_f, cw_0, cw_7, cw_g0, cw_g1, cw_u0, cw_u7, upd_nI, hdn, i3, hd0, cI_div, cI_sub, em, k_cand h2.c5 hC, p3]
    rw [cn_split h2 j2.1 j2.2 j3', Nat.zero_add]
end
