/-! the making of the law's Grid -/
section
variable {f : Nat → Option z_C} {N x y n k l : Nat}
theorem nM3_ {K : Nat → z_H → Prop} (hn : n ≤ 100) (hk : k ≤ 100) (hl : l ≤ 100) : z_nM3 (f, some N, x, y) (nI n) (nI k) (nI l) K = K N (z_m3 N n k l f, some (N + 1 + n * (1 + k)), x + 1 + n * (1 + k), y + n + n * (k + k * l)) := by
  have r : ∀ {a : Nat}, a ≤ 100 → (0 : Int32) ≤ nI a ∧ nI a ≤ 100 := fun {a} h => ⟨(cI_rng (by omega)).1, by
    show nI a ≤ nI 100
    rw [cI_le (by omega) (by omega)]
    exact h⟩
  have h : z_ma3 (f, some N, x, y) (nI n) (nI k) (nI l) = some (N, (z_m3 N n k l f, some (N + 1 + n * (1 + k)), x + 1 + n * (1 + k), y + n + n * (k + k * l))) := by
    unfold z_ma3
    dsimp only
    rw [if_pos ⟨r hn, r hk, r hl⟩, cI_cl (by omega), cI_cl (by omega), cI_cl (by omega)]
  unfold z_nM3
  rw [h]
theorem n3_0 : z_m3 N n k l f N = some (lo (.array .boolean) n (fun i => N + 1 + i * (1 + k))) := if_pos rfl
theorem n3_o {z : Nat} (h : z < N ∨ N + 1 + n * (1 + k) ≤ z) : z_m3 N n k l f z = f z := by
  unfold z_m3
  rw [if_neg (by omega), if_neg (by omega)]
theorem n3_in {m : Nat} (h : m < n * (1 + k)) : z_m3 N n k l f (N + 1 + m) = if m % (1 + k) = 0 then some (lo .boolean k (fun i => N + 1 + m + 1 + i)) else some (.inl (.boolean, l, .inl fun _ => 0)) := by
  unfold z_m3
  rw [if_neg (by omega), if_pos ⟨by omega, by omega⟩, show N + 1 + m - N - 1 = m by omega]
  rfl
end
theorem arr_zb (n : Nat) : (fun _ => 0 : Nat → Int32) = arr n fun _ => zb false := by
  funext z
  unfold arr
  split <;> rfl
theorem arr_c0 (n : Nat) : (fun _ => 0 : Nat → Int32) = arr n fun _ => ce 0 := by
  funext z
  unfold arr
  split <;> rfl
def T0 (R C : Nat) : GS := ⟨fun _ => 0, fun _ => false, fun _ _ => false, R, C, 0, 0⟩
def X0 : LX := (nI 0, .null, .null, .null, .null)
section
variable {g : z_G} {d Q x y R C : Nat} {F : Nat → Option z_C} {P : z_Res → Prop}
theorem lgw_cg {f : Nat → Option z_C} {S S' : GS} {X : LX} (hR : S.R = S'.R) (hC : S.C = S'.C) (hG : S.G = S'.G) (hN : S.N = S'.N) (hv : S.gv = S'.gv) (hb : S.b = S'.b) (hc : ∀ r j, r < S.R → j < S.C → S.c (r * 5 + j) = S'.c (r * 5 + j)) : lgw f Q S X = lgw f Q S' X := by
  unfold lgw
  have nl : NL S = NL S' := by unfold NL; rw [hR, hC]
  rw [nl]
  refine ow_congr fun k hk => ?_
  unfold lgb lgf
  rw [hR, hC, hG, hN, hv, hb]
  by_cases a : k = 0
  · rw [if_pos a, if_pos a]
  · rw [if_neg a, if_neg a]
    by_cases b : k = 1
    · rw [if_pos b, if_pos b]
    · rw [if_neg b, if_neg b]
      by_cases c : k < 2 + S'.R
      · rw [if_pos c, if_pos c, arr_congr fun x hx => by rw [hc (k - 2) x (by omega) (by omega)]]
      · rw [if_neg c, if_neg c]
theorem l_in1 {f : Nat → Option z_C} {T : GS} {X : LX} {q : Option Nat × Nat × Nat} {r : Nat} {u1 : Value} (hR : T.R ≤ 5) (hC : T.C ≤ 5) (hr : r < T.R) : ∀ (k j : Nat) (c : Nat → Nat), j + k = T.C → z_T g d 94 55 [.ref Q, u1, .int (nI T.C), .int (nI r), .int (nI j)] [] (lgw f Q (T.sc c) X, q) P = z_T g d 94 77 [.ref Q, u1, .int (nI T.C), .int (nI r), .int (nI T.C)] [] (lgw f Q (T.sc fun i => if i / 5 = r ∧ j ≤ i % 5 ∧ i % 5 < T.C then 5 else c i) X, q) P
  | 0, j, c, h => by
    have : j = T.C := by omega
    subst this
    have e : (fun i => if i / 5 = r ∧ T.C ≤ i % 5 ∧ i % 5 < T.C then 5 else c i) = c := funext fun i => if_neg (fun z => by omega)
    rw [e, ze_94_55]
    simp (disch := omega) only [ze_94_0, ze_94_0_n, ze_94_1, ze_94_4, ze_94_4_n, ze_94_5, ze_94_6, ze_94_9, ze_94_9_n, ze_94_10, ze_94_11, ze_94_14, ze_94_14_n, ze_94_15, ze_94_16, ze_94_17, ze_94_21, ze_94_21_n, ze_94_24, ze_94_24_n, ze_94_25, ze_94_26, ze_94_27, ze_94_31, ze_94_31_n, ze_94_34, ze_94_34_n, ze_94_35, ze_94_36, ze_94_37, ze_94_38, ze_94_42, ze_94_42_n, ze_94_45, ze_94_46, ze_94_47, ze_94_48, ze_94_49, ze_94_52, ze_94_53, ze_94_57, ze_94_58, ze_94_61, ze_94_61_n, ze_94_62, ze_94_65, ze_94_66, ze_94_67, ze_94_69, ze_94_70, ze_94_71, ze_94_74, ze_94_80, ze_94_83, z_k_r, z_push_s, z_push_n, okS_0, okS_I, okS_R, okS_A, List.getElem?_cons_zero, List.getElem?_cons_succ, List.length_cons, List.length_nil, List.set_cons_zero, List.set_cons_succ, true_and, and_true, z_tI, z_tB, pk_mul, nI_add, cI_cl, cI_ix, nar_0, nar_1, nar_b, Nat.reduceAdd, Nat.reduceLT, Nat.reduceMul, cI_lt, cI_eq, ↓reduceIte, if_true, if_false, Nat.lt_irrefl, eq_self, Nat.reduceEqDiff, or_true, true_or, or_false, false_or, not_false_eq_true, not_true_eq_false, ce_5, zb_t, zb_f]
  | k + 1, j, c, h => by
    have hj : j < T.C := by omega
    have g4 := fun q K => lG_4 f Q (T.sc c) X q K
    have q1 := fun q K => lG_q1 f Q (T.sc c) X q (r := r) hr hR K
    have tk := fun q K => lG_take f Q (T.sc c) X q (r := r) (j := j) hr hj hC K
    rw [show (T.sc c).take r j = T.sc (nu c (r * 5 + j) 5) from rfl] at tk
    have go := l_in1 (q := q) (X := X) (f := f) (T := T) (u1 := u1) hR hC hr k (j + 1) (nu c (r * 5 + j) 5) (by omega)
    have e : (fun i => if i / 5 = r ∧ j + 1 ≤ i % 5 ∧ i % 5 < T.C then 5 else nu c (r * 5 + j) 5 i) = fun i => if i / 5 = r ∧ j ≤ i % 5 ∧ i % 5 < T.C then 5 else c i := by
      funext i
      by_cases z : i = r * 5 + j
      · rw [z, nu_s, if_pos (⟨by omega, by omega, by omega⟩ : (r * 5 + j) / 5 = r ∧ j ≤ (r * 5 + j) % 5 ∧ (r * 5 + j) % 5 < T.C)]
        split <;> rfl
      · rw [nu_n z]
        by_cases w : i / 5 = r ∧ j ≤ i % 5 ∧ i % 5 < T.C
        · rw [if_pos w, if_pos ⟨w.1, by omega, w.2.2⟩]
        · rw [if_neg w, if_neg (fun v => w ⟨v.1, by omega, v.2.2⟩)]
    rw [e] at go
    rw [ze_94_55]
    simp (disch := omega) only [ze_94_0, ze_94_0_n, ze_94_1, ze_94_4, ze_94_4_n, ze_94_5, ze_94_6, ze_94_9, ze_94_9_n, ze_94_10, ze_94_11, ze_94_14, ze_94_14_n, ze_94_15, ze_94_16, ze_94_17, ze_94_21, ze_94_21_n, ze_94_24, ze_94_24_n, ze_94_25, ze_94_26, ze_94_27, ze_94_31, ze_94_31_n, ze_94_34, ze_94_34_n, ze_94_35, ze_94_36, ze_94_37, ze_94_38, ze_94_42, ze_94_42_n, ze_94_45, ze_94_46, ze_94_47, ze_94_48, ze_94_49, ze_94_52, ze_94_53, ze_94_57, ze_94_58, ze_94_61, ze_94_61_n, ze_94_62, ze_94_65, ze_94_66, ze_94_67, ze_94_69, ze_94_70, ze_94_71, ze_94_74, ze_94_80, ze_94_83, z_k_r, z_push_s, z_push_n, okS_0, okS_I, okS_R, okS_A, List.getElem?_cons_zero, List.getElem?_cons_succ, List.length_cons, List.length_nil, List.set_cons_zero, List.set_cons_succ, true_and, and_true, z_tI, z_tB, pk_mul, nI_add, cI_cl, cI_ix, nar_0, nar_1, nar_b, Nat.reduceAdd, Nat.reduceLT, Nat.reduceMul, cI_lt, cI_eq, ↓reduceIte, if_true, if_false, Nat.lt_irrefl, eq_self, Nat.reduceEqDiff, or_true, true_or, or_false, false_or, not_false_eq_true, not_true_eq_false, ce_5, zb_t, zb_f, hj, ↓g4, ↓q1, ↓tk]
    exact go
theorem l_in2 {f : Nat → Option z_C} {T : GS} {X : LX} {q : Option Nat × Nat × Nat} (hR : T.R ≤ 5) (hC : T.C ≤ 5) : ∀ (k r : Nat) (c : Nat → Nat) (v : Value), r + k = T.R → z_T g d 94 47 [.ref Q, .int (nI T.R), .int (nI T.C), .int (nI r), v] [] (lgw f Q (T.sc c) X, q) P = P (.inr none, (lgw f Q (T.sc fun i => if r ≤ i / 5 ∧ i / 5 < T.R ∧ i % 5 < T.C then 5 else c i) X, q))
  | 0, r, c, v, h => by
    have : r = T.R := by omega
    subst this
    have e : (fun i => if T.R ≤ i / 5 ∧ i / 5 < T.R ∧ i % 5 < T.C then 5 else c i) = c := funext fun i => if_neg (fun z => by omega)
    rw [e, ze_94_47]
    simp (disch := omega) only [ze_94_0, ze_94_0_n, ze_94_1, ze_94_4, ze_94_4_n, ze_94_5, ze_94_6, ze_94_9, ze_94_9_n, ze_94_10, ze_94_11, ze_94_14, ze_94_14_n, ze_94_15, ze_94_16, ze_94_17, ze_94_21, ze_94_21_n, ze_94_24, ze_94_24_n, ze_94_25, ze_94_26, ze_94_27, ze_94_31, ze_94_31_n, ze_94_34, ze_94_34_n, ze_94_35, ze_94_36, ze_94_37, ze_94_38, ze_94_42, ze_94_42_n, ze_94_45, ze_94_46, ze_94_48, ze_94_49, ze_94_52, ze_94_53, ze_94_55, ze_94_57, ze_94_58, ze_94_61, ze_94_61_n, ze_94_62, ze_94_65, ze_94_66, ze_94_67, ze_94_69, ze_94_70, ze_94_71, ze_94_74, ze_94_77, ze_94_80, ze_94_83, z_k_r, z_push_s, z_push_n, okS_0, okS_I, okS_R, okS_A, List.getElem?_cons_zero, List.getElem?_cons_succ, List.length_cons, List.length_nil, List.set_cons_zero, List.set_cons_succ, true_and, and_true, z_tI, z_tB, pk_mul, nI_add, cI_cl, cI_ix, nar_0, nar_1, nar_b, Nat.reduceAdd, Nat.reduceLT, Nat.reduceMul, cI_lt, cI_eq, ↓reduceIte, if_true, if_false, Nat.lt_irrefl, eq_self, Nat.reduceEqDiff, or_true, true_or, or_false, false_or, not_false_eq_true, not_true_eq_false, ce_5, zb_t, zb_f]
  | k + 1, r, c, v, h => by
    have hr : r < T.R := by omega
    have w := l_in1 (g := g) (d := d) (P := P) (Q := Q) (f := f) (T := T) (X := X) (q := q) (u1 := .int (nI T.R)) hR hC hr T.C 0 c (Nat.zero_add _)
    have go := l_in2 (q := q) (X := X) (f := f) (T := T) hR hC k (r + 1) (fun i => if i / 5 = r ∧ 0 ≤ i % 5 ∧ i % 5 < T.C then 5 else c i) (.int (nI T.C)) (by omega)
    have e : (fun i => if r + 1 ≤ i / 5 ∧ i / 5 < T.R ∧ i % 5 < T.C then 5 else (fun i => if i / 5 = r ∧ 0 ≤ i % 5 ∧ i % 5 < T.C then 5 else c i) i) = fun i => if r ≤ i / 5 ∧ i / 5 < T.R ∧ i % 5 < T.C then 5 else c i := by
      funext i
      show (if r + 1 ≤ i / 5 ∧ i / 5 < T.R ∧ i % 5 < T.C then 5 else if i / 5 = r ∧ 0 ≤ i % 5 ∧ i % 5 < T.C then 5 else c i) = _
      by_cases w : r ≤ i / 5 ∧ i / 5 < T.R ∧ i % 5 < T.C
      · rw [if_pos w]
        by_cases z : i / 5 = r
        · rw [if_neg (by omega), if_pos ⟨z, Nat.zero_le _, w.2.2⟩]
        · rw [if_pos ⟨by omega, w.2⟩]
      · rw [if_neg w, if_neg (fun v => w ⟨by omega, v.2⟩), if_neg (fun v => w ⟨by omega, by omega, v.2.2⟩)]
    rw [e] at go
    rw [ze_94_47]
    simp (disch := omega) only [ze_94_0, ze_94_0_n, ze_94_1, ze_94_4, ze_94_4_n, ze_94_5, ze_94_6, ze_94_9, ze_94_9_n, ze_94_10, ze_94_11, ze_94_14, ze_94_14_n, ze_94_15, ze_94_16, ze_94_17, ze_94_21, ze_94_21_n, ze_94_24, ze_94_24_n, ze_94_25, ze_94_26, ze_94_27, ze_94_31, ze_94_31_n, ze_94_34, ze_94_34_n, ze_94_35, ze_94_36, ze_94_37, ze_94_38, ze_94_42, ze_94_42_n, ze_94_45, ze_94_46, ze_94_48, ze_94_49, ze_94_52, ze_94_53, ze_94_57, ze_94_58, ze_94_61, ze_94_61_n, ze_94_62, ze_94_65, ze_94_66, ze_94_67, ze_94_69, ze_94_70, ze_94_71, ze_94_74, ze_94_77, ze_94_80, ze_94_83, z_k_r, z_push_s, z_push_n, okS_0, okS_I, okS_R, okS_A, List.getElem?_cons_zero, List.getElem?_cons_succ, List.length_cons, List.length_nil, List.set_cons_zero, List.set_cons_succ, true_and, and_true, z_tI, z_tB, pk_mul, nI_add, cI_cl, cI_ix, nar_0, nar_1, nar_b, Nat.reduceAdd, Nat.reduceLT, Nat.reduceMul, cI_lt, cI_eq, ↓reduceIte, if_true, if_false, Nat.lt_irrefl, eq_self, Nat.reduceEqDiff, or_true, true_or, or_false, false_or, not_false_eq_true, not_true_eq_false, ce_5, zb_t, zb_f, hr]
    rw [w]
    simp (disch := omega) only [ze_94_0, ze_94_0_n, ze_94_1, ze_94_4, ze_94_4_n, ze_94_5, ze_94_6, ze_94_9, ze_94_9_n, ze_94_10, ze_94_11, ze_94_14, ze_94_14_n, ze_94_15, ze_94_16, ze_94_17, ze_94_21, ze_94_21_n, ze_94_24, ze_94_24_n, ze_94_25, ze_94_26, ze_94_27, ze_94_31, ze_94_31_n, ze_94_34, ze_94_34_n, ze_94_35, ze_94_36, ze_94_37, ze_94_38, ze_94_42, ze_94_42_n, ze_94_45, ze_94_46, ze_94_48, ze_94_49, ze_94_52, ze_94_53, ze_94_57, ze_94_58, ze_94_61, ze_94_61_n, ze_94_62, ze_94_65, ze_94_66, ze_94_67, ze_94_69, ze_94_70, ze_94_71, ze_94_74, ze_94_77, ze_94_80, ze_94_83, z_k_r, z_push_s, z_push_n, okS_0, okS_I, okS_R, okS_A, List.getElem?_cons_zero, List.getElem?_cons_succ, List.length_cons, List.length_nil, List.set_cons_zero, List.set_cons_succ, true_and, and_true, z_tI, z_tB, pk_mul, nI_add, cI_cl, cI_ix, nar_0, nar_1, nar_b, Nat.reduceAdd, Nat.reduceLT, Nat.reduceMul]
    exact go
theorem l_mk (hR1 : 1 ≤ R) (hR : R ≤ 5) (hC : C ≤ 5) : z_Ca g d 94 [.ref Q, .int (nI R), .int (nI C)] (z_up F Q (.inr (10, [.int 0, .int 0, .int 0, .int 0, .null, .null, .null, .int 0, .null, .null, .null, .null])), some (Q + 1), x, y) P = P (.inr none, (lgw F Q (S0 R C) X0, some (Q + NL (S0 R C)), x + 1 + R + 1 + R + 1 + R * (1 + C), y + R + R * C + R + R * C + R + R * (C + C * C))) := by
  obtain ⟨F1, h1⟩ : ∃ F1, F1 = z_up F Q (.inr (10, [.int (nI R), .int (nI C), .int 0, .int 0, .null, .null, .null, .int 0, .null, .null, .null, .null])) := ⟨_, rfl⟩
  obtain ⟨F2, h2⟩ : ∃ F2, F2 = m2F F1 (Q + 1) .int R C := ⟨_, rfl⟩
  obtain ⟨F3, h3⟩ : ∃ F3, F3 = z_up F2 Q (.inr (10, [.int (nI R), .int (nI C), .int 0, .int 0, .ref (Q + 1), .null, .null, .int 0, .null, .null, .null, .null])) := ⟨_, rfl⟩
  obtain ⟨F4, h4⟩ : ∃ F4, F4 = m2F F3 (Q + 1 + 1 + R) .boolean R C := ⟨_, rfl⟩
  obtain ⟨F5, h5⟩ : ∃ F5, F5 = z_up F4 Q (.inr (10, [.int (nI R), .int (nI C), .int 0, .int 0, .ref (Q + 1), .ref (Q + 1 + 1 + R), .null, .int 0, .null, .null, .null, .null])) := ⟨_, rfl⟩
  obtain ⟨F6, h6⟩ : ∃ F6, F6 = z_m3 (Q + 1 + 1 + R + 1 + R) R C C F5 := ⟨_, rfl⟩
  obtain ⟨F7, h7⟩ : ∃ F7, F7 = z_up F6 Q (.inr (10, [.int (nI R), .int (nI C), .int 0, .int 0, .ref (Q + 1), .ref (Q + 1 + 1 + R), .ref (Q + 1 + 1 + R + 1 + R), .int 0, .null, .null, .null, .null])) := ⟨_, rfl⟩
  have e1 : F1 Q = some (.inr (10, [.int (nI R), .int (nI C), .int 0, .int 0, .null, .null, .null, .int 0, .null, .null, .null, .null])) := by rw [h1, z_up_self]
  have e2 : F2 Q = some (.inr (10, [.int (nI R), .int (nI C), .int 0, .int 0, .null, .null, .null, .int 0, .null, .null, .null, .null])) := by rw [h2, m2F_o (by omega), e1]
  have e4 : F4 Q = some (.inr (10, [.int (nI R), .int (nI C), .int 0, .int 0, .ref (Q + 1), .null, .null, .int 0, .null, .null, .null, .null])) := by rw [h4, m2F_o (by omega), h3, z_up_self]
  have e6 : F6 Q = some (.inr (10, [.int (nI R), .int (nI C), .int 0, .int 0, .ref (Q + 1), .ref (Q + 1 + 1 + R), .null, .int 0, .null, .null, .null, .null])) := by rw [h6, n3_o (by omega), h5, z_up_self]
  have p2 : ∀ K : (Nat → Option z_C) → Prop, z_pF F2 Q 10 4 (.ref (Q + 1)) K = K F3 := fun K => by
    rw [h3]
    simp only [z_pF, e2, List.set_cons_zero, List.set_cons_succ, List.length_cons, List.length_nil, Nat.reduceAdd, Nat.reduceLT, true_and]
  have p4 : ∀ K : (Nat → Option z_C) → Prop, z_pF F4 Q 10 5 (.ref (Q + 1 + 1 + R)) K = K F5 := fun K => by
    rw [h5]
    simp only [z_pF, e4, List.set_cons_zero, List.set_cons_succ, List.length_cons, List.length_nil, Nat.reduceAdd, Nat.reduceLT, true_and]
  have p6 : ∀ K : (Nat → Option z_C) → Prop, z_pF F6 Q 10 6 (.ref (Q + 1 + 1 + R + 1 + R)) K = K F7 := fun K => by
    rw [h7]
    simp only [z_pF, e6, List.set_cons_zero, List.set_cons_succ, List.length_cons, List.length_nil, Nat.reduceAdd, Nat.reduceLT, true_and]
  have pic : F7 = lgw F Q (T0 R C) X0 := by
    have out : ∀ z, (z < Q ∨ Q + NL (T0 R C) ≤ z) → F7 z = F z := fun z hz => by
      have nl : NL (T0 R C) = 4 + 2 * R + R * (1 + C) := rfl
      rw [nl] at hz
      rw [h7, z_up_ne (by omega), h6, n3_o (by omega), h5, z_up_ne (by omega), h4, m2F_o (by omega), h3, z_up_ne (by omega), h2, m2F_o (by omega), h1, z_up_ne (by omega)]
    refine ow_eq (fun k hk => ?_) out
    have nl : NL (T0 R C) = 4 + 2 * R + R * (1 + C) := rfl
    rw [nl] at hk
    by_cases a0 : k = 0
    · subst a0
      rw [lgb_0, Nat.add_zero, h7, z_up_self, show Q + 1 + 1 + R = Q + 2 + R by omega, show Q + 2 + R + 1 + R = Q + 3 + 2 * R by omega]
      rfl
    rw [h7, z_up_ne (by omega), h6]
    by_cases a6 : k < 3 + 2 * R
    · rw [n3_o (by omega), h5, z_up_ne (by omega), h4]
      by_cases a2 : k < 2 + R
      · rw [m2F_o (by omega), h3, z_up_ne (by omega), h2]
        by_cases a1 : k = 1
        · subst a1
          rw [m2F_0, lgb_1]
          show some (lo .int R fun i => Q + 1 + 1 + i) = _
          rw [show Q + 1 + 1 = Q + 2 by omega]
          rfl
        · obtain ⟨r, rfl⟩ := Nat.exists_eq_add_of_le (show 2 ≤ k by omega)
          rw [show Q + (2 + r) = Q + 1 + 1 + r by omega, m2F_r (by omega), lgb_c (S := T0 R C) (show r < R by omega), arr_c0 C]
          rfl
      · by_cases a3 : k = 2 + R
        · subst a3
          rw [show Q + (2 + R) = Q + 1 + 1 + R by omega, m2F_0]
          have := lgb_2 (Q := Q) (S := T0 R C) (X := X0)
          rw [show (T0 R C).R = R from rfl] at this
          rw [this, show Q + 1 + 1 + R + 1 = Q + 3 + R by omega]
        · obtain ⟨r, rfl⟩ := Nat.exists_eq_add_of_le (show 3 + R ≤ k by omega)
          have := lgb_g (Q := Q) (S := T0 R C) (X := X0) (r := r) (show r < R by omega)
          rw [show (T0 R C).R = R from rfl] at this
          rw [show Q + (3 + R + r) = Q + 1 + 1 + R + 1 + r by omega, m2F_r (by omega), this, arr_zb C]
          rfl
    · by_cases a5 : k = 3 + 2 * R
      · subst a5
        have := lgb_3 (Q := Q) (S := T0 R C) (X := X0)
        rw [show (T0 R C).R = R from rfl, show (T0 R C).C = C from rfl] at this
        rw [show Q + (3 + 2 * R) = Q + 1 + 1 + R + 1 + R by omega, n3_0, this, show Q + 1 + 1 + R + 1 + R + 1 = Q + 4 + 2 * R by omega]
      · obtain ⟨m, rfl⟩ := Nat.exists_eq_add_of_le (show 4 + 2 * R ≤ k by omega)
        have hm : m < R * (1 + C) := by omega
        rw [show Q + (4 + 2 * R + m) = Q + 1 + 1 + R + 1 + R + 1 + m by omega, n3_in hm]
        have dm := Nat.div_add_mod m (1 + C)
        rw [Nat.mul_comm] at dm
        by_cases z : m % (1 + C) = 0
        · have := lgb_s (Q := Q) (S := T0 R C) (X := X0) (r := m / (1 + C))
          rw [show (T0 R C).R = R from rfl, show (T0 R C).C = C from rfl] at this
          rw [if_pos z, show 4 + 2 * R + m = 4 + 2 * R + m / (1 + C) * (1 + C) by omega, this, show Q + 1 + 1 + R + 1 + R + 1 + m + 1 = Q + (4 + 2 * R + m / (1 + C) * (1 + C)) + 1 by omega]
        · have lt : m % (1 + C) < 1 + C := Nat.mod_lt _ (by omega)
          have := lgb_b (Q := Q) (S := T0 R C) (X := X0) (r := m / (1 + C)) (j := m % (1 + C) - 1) (show m % (1 + C) - 1 < C by omega)
          rw [show (T0 R C).R = R from rfl, show (T0 R C).C = C from rfl] at this
          rw [if_neg z, show 4 + 2 * R + m = 4 + 2 * R + (m / (1 + C) * (1 + C) + (1 + (m % (1 + C) - 1))) by omega, this, arr_zb C]
          rfl
  have fin := l_in2 (g := g) (d := d) (P := P) (Q := Q) (f := F) (T := T0 R C) (X := X0) (q := (some (Q + 1 + 1 + R + 1 + R + 1 + R * (1 + C)), x + 1 + R + 1 + R + 1 + R * (1 + C), y + R + R * C + R + R * C + R + R * (C + C * C))) hR hC R 0 (fun _ => 0) z_un (Nat.zero_add _)
  have cg : lgw F Q ((T0 R C).sc fun i => if 0 ≤ i / 5 ∧ i / 5 < (T0 R C).R ∧ i % 5 < (T0 R C).C then 5 else (fun _ => 0) i) X0 = lgw F Q (S0 R C) X0 := lgw_cg rfl rfl rfl rfl rfl rfl fun r j hr hj => by
    have hr : r < R := hr
    have hj : j < C := hj
    exact if_pos ⟨Nat.zero_le _, by show (r * 5 + j) / 5 < R; omega, by show (r * 5 + j) % 5 < C; omega⟩
  rw [cg, show Q + 1 + 1 + R + 1 + R + 1 + R * (1 + C) = Q + NL (S0 R C) by show _ = Q + (4 + 2 * R + R * (1 + C)); omega] at fin
  rw [show (T0 R C).sc (fun _ => 0) = T0 R C from rfl, show (T0 R C).R = R from rfl, show (T0 R C).C = C from rfl, ← pic] at fin
  have p00 : ∀ K : (Nat → Option z_C) → Prop, z_pF (z_up F Q (.inr (10, [.int 0, .int 0, .int 0, .int 0, .null, .null, .null, .int 0, .null, .null, .null, .null]))) Q 10 0 (.int (nI R)) K = K (z_up F Q (.inr (10, [.int (nI R), .int 0, .int 0, .int 0, .null, .null, .null, .int 0, .null, .null, .null, .null]))) := fun K => by
    simp only [z_pF, z_up_self, z_up_up, List.set_cons_zero, List.set_cons_succ, List.length_cons, List.length_nil, Nat.reduceAdd, Nat.reduceLT, true_and]
  have p01 : ∀ K : (Nat → Option z_C) → Prop, z_pF (z_up F Q (.inr (10, [.int (nI R), .int 0, .int 0, .int 0, .null, .null, .null, .int 0, .null, .null, .null, .null]))) Q 10 1 (.int (nI C)) K = K F1 := fun K => by
    rw [h1]
    simp only [z_pF, z_up_self, z_up_up, List.set_cons_zero, List.set_cons_succ, List.length_cons, List.length_nil, Nat.reduceAdd, Nat.reduceLT, true_and]
  rw [← fin, zn_94]
  simp (disch := omega) only [ze_94_0, ze_94_0_n, ze_94_1, ze_94_4, ze_94_4_n, ze_94_5, ze_94_6, ze_94_9, ze_94_9_n, ze_94_10, ze_94_11, ze_94_14, ze_94_14_n, ze_94_15, ze_94_16, ze_94_17, ze_94_21, ze_94_21_n, ze_94_24, ze_94_24_n, ze_94_25, ze_94_26, ze_94_27, ze_94_31, ze_94_31_n, ze_94_34, ze_94_34_n, ze_94_35, ze_94_36, ze_94_37, ze_94_38, ze_94_42, ze_94_42_n, ze_94_45, ze_94_46, ze_94_48, ze_94_49, ze_94_52, ze_94_53, ze_94_55, ze_94_57, ze_94_58, ze_94_61, ze_94_61_n, ze_94_62, ze_94_65, ze_94_66, ze_94_67, ze_94_69, ze_94_70, ze_94_71, ze_94_74, ze_94_77, ze_94_80, ze_94_83, z_k_r, z_push_s, z_push_n, okS_0, okS_I, okS_R, okS_A, List.getElem?_cons_zero, List.getElem?_cons_succ, List.length_cons, List.length_nil, List.set_cons_zero, List.set_cons_succ, true_and, and_true, z_tI, z_tB, pk_mul, nI_add, cI_cl, cI_ix, nar_0, nar_1, nar_b, Nat.reduceAdd, Nat.reduceLT, Nat.reduceMul, p00, p01, nM_, ← h2, p2, ← h4, p4, nM3_, ← h6, p6]
  rw [show Q + 1 + 1 + R + 1 + R + 1 + R * (1 + C) = Q + NL (S0 R C) by show _ = Q + (4 + 2 * R + R * (1 + C)); omega]
end
