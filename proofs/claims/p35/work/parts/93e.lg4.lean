/-! what stands beside the Grid's cells; a cycle's columns -/
section
variable {f : Nat → Option z_C} {Q a : Nat} {S : GS} {X : LX}
theorem th_aL {t : FieldType → Bool} {j : Int32} {K : Int32 → Prop} (h : a < Q ∨ Q + NL S ≤ a) : z_aL (lgw f Q S X) a t j K = z_aL f a t j K := by
  unfold z_aL; rw [lg_o h]
theorem th_qL {j : Int32} {K : Nat → Prop} (h : a < Q ∨ Q + NL S ≤ a) : z_qL (lgw f Q S X) a j K = z_qL f a j K := by
  unfold z_qL; rw [lg_o h]
theorem th_gI {ci k : Nat} {K : Int32 → Prop} (h : a < Q ∨ Q + NL S ≤ a) : z_gI (lgw f Q S X) a ci k K = z_gI f a ci k K := by
  unfold z_gI; rw [lg_o h]
theorem th_gR {ci k : Nat} {K : Value → Prop} (h : a < Q ∨ Q + NL S ≤ a) : z_gR (lgw f Q S X) a ci k K = z_gR f a ci k K := by
  unfold z_gR; rw [lg_o h]
theorem th_aN {K : Nat → Prop} (h : a < Q ∨ Q + NL S ≤ a) : z_aN (lgw f Q S X) a K = z_aN f a K := by
  unfold z_aN; rw [lg_o h]
theorem th_aS {t : FieldType → Bool} {j x : Int32} {K : (Nat → Option z_C) → Prop} (h : a < Q ∨ Q + NL S ≤ a) : z_aS (lgw f Q S X) a t j x K = z_aS f a t j x (fun f' => K (lgw f' Q S X)) := by
  unfold z_aS
  rw [lg_o h]
  split
  · rw [lgw_up h]
  · rfl
end
/-- an array of booleans, of ints, just as it stands -/
def bzA (n : Nat) (F : Nat → Int32) : z_C := .inl (.boolean, n, .inl F)
def inA (n : Nat) (F : Nat → Int32) : z_C := .inl (.int, n, .inl F)
section
variable {F : Nat → Option z_C} {a n k : Nat} {c : Nat → Int32}
theorem zA_L (h : F a = some (bzA n c)) (hk : k < n) (hn : n ≤ 1000) {K : Int32 → Prop} : z_aL F a z_tB (nI k) K = K (c k) := by
  simp (disch := omega) only [z_aL, h, bzA, z_tB, cI_ix, cI_cl, true_and]
theorem iA_L (h : F a = some (inA n c)) (hk : k < n) (hn : n ≤ 1000) {K : Int32 → Prop} : z_aL F a z_tI (nI k) K = K (c k) := by
  simp (disch := omega) only [z_aL, h, inA, z_tI, cI_ix, cI_cl, true_and]
theorem zA_S (hk : k < n) (hn : n ≤ 1000) {v : Int32} {K : (Nat → Option z_C) → Prop} : z_aS (z_up F a (bzA n c)) a z_tB (nI k) v K = K (z_up F a (bzA n (upd c k (vp_nar .boolean v)))) := by
  simp (disch := omega) only [z_aS, z_up_self, bzA, z_tB, cI_ix, cI_cl, z_up_up, true_and]
theorem iA_S (hk : k < n) (hn : n ≤ 1000) {v : Int32} {K : (Nat → Option z_C) → Prop} : z_aS (z_up F a (inA n c)) a z_tI (nI k) v K = K (z_up F a (inA n (upd c k v))) := by
  simp (disch := omega) only [z_aS, z_up_self, inA, z_tI, cI_ix, cI_cl, z_up_up, true_and]
theorem iA_S' (h : F a = some (inA n c)) (hk : k < n) (hn : n ≤ 1000) {v : Int32} {K : (Nat → Option z_C) → Prop} : z_aS F a z_tI (nI k) v K = K (z_up F a (inA n (upd c k v))) := by
  simp (disch := omega) only [z_aS, h, inA, z_tI, cI_ix, cI_cl, true_and]
end
section
variable {g : z_G} {d : Nat} {f : Nat → Option z_C} {P : z_Res → Prop} {Q N x y : Nat} {q : Option Nat × Nat × Nat} {S : GS} {X : LX}
theorem l_cyc1 (hg : GI S) {a b c : Nat} (ha : a < S.R) (hb : b < S.R) (fa : S.fl a = true) (fb : S.fl b = true) (hc : c < S.C) {z n9 : Value} : ∀ (k i : Nat), i + k = S.pi a b c → z_T g d 104 28 [.ref Q, .int (nI a), .int (nI b), z, n9, .int (nI c), .int (nI i)] [] (lgw f Q S X, q) P = z_T g d 104 55 [.ref Q, .int (nI a), .int (nI b), z, n9, .int (nI c), .int (nI (S.pi a b c))] [] (lgw f Q S X, q) P
  | 0, i, h => by
    have hC := hg.C5
    have hR := hg.RC
    have : i = S.pi a b c := by omega
    subst this
    obtain ⟨p1, p2, p3⟩ := pi_sp hg (by omega) (by omega) fa fb hc
    rw [ze_104_28]
    simp (disch := omega) only [ze_104_0, ze_104_0_n, ze_104_1, ze_104_4, ze_104_6, ze_104_6_n, ze_104_8, ze_104_9, ze_104_11, ze_104_11_n, ze_104_13, ze_104_15, ze_104_16, ze_104_19, ze_104_19_n, ze_104_21, ze_104_23, ze_104_24, ze_104_25, ze_104_26, ze_104_29, ze_104_32, ze_104_33, ze_104_34, ze_104_36, ze_104_37, ze_104_37_n, ze_104_38, ze_104_41, ze_104_42, ze_104_43, ze_104_45, ze_104_46, ze_104_49, ze_104_52, ze_104_57, ze_104_59, ze_104_62, ze_104_62_n, ze_104_64, ze_104_64_n, z_k_r, z_push_s, z_push_n, okS_0, okS_I, okS_R, okS_A, List.getElem?_cons_zero, List.getElem?_cons_succ, List.length_cons, List.length_nil, List.set_cons_zero, List.set_cons_succ, true_and, and_true, z_tI, z_tB, pk_mul, nI_add, cI_cl, cI_ix, nar_0, nar_1, nar_b, Nat.reduceAdd, Nat.reduceLT, Nat.reduceMul, ↓lG_R, ↓lG_C, ↓lG_N, ↓lG_G, ↓lG_n, ↓lG_4, ↓lG_5, ↓lG_6, lG_o, ↓lG_q1, lG_q1, ↓lG_q2, lG_q2, ↓lG_q3, lG_q3, ↓lG_q4, lG_q4, ↓lG_a1, lG_a1, ↓lG_a2, lG_a2, ↓lG_a4, lG_a4, lH_R, lH_C, lH_N, lH_G, lH_n, lH_4, lH_5, lH_6, lH_q1, lH_q2, lH_q3, lH_q4, lH_a1, lH_a2, lH_a4, cI_lt, cI_eq, ↓reduceIte, if_true, if_false, Nat.lt_irrefl, eq_self, Nat.reduceEqDiff, or_true, true_or, or_false, false_or, not_false_eq_true, not_true_eq_false, ce_5, zb_t, zb_f, p2]
  | k + 1, i, h => by
    have hC := hg.C5
    have hR := hg.RC
    obtain ⟨p1, p2, p3⟩ := pi_sp hg (by omega) (by omega) fa fb hc
    have hi : i < S.C := by omega
    have hn := p3 i (by omega)
    have e5 := ce_inj (hg.c5 (a * 5 + i)) (hg.c5 (b * 5 + c))
    rw [ze_104_28]
    simp (disch := omega) only [ze_104_0, ze_104_0_n, ze_104_1, ze_104_4, ze_104_6, ze_104_6_n, ze_104_8, ze_104_9, ze_104_11, ze_104_11_n, ze_104_13, ze_104_15, ze_104_16, ze_104_19, ze_104_19_n, ze_104_21, ze_104_23, ze_104_24, ze_104_25, ze_104_26, ze_104_29, ze_104_32, ze_104_33, ze_104_34, ze_104_36, ze_104_37, ze_104_37_n, ze_104_38, ze_104_41, ze_104_42, ze_104_43, ze_104_45, ze_104_46, ze_104_49, ze_104_52, ze_104_57, ze_104_59, ze_104_62, ze_104_62_n, ze_104_64, ze_104_64_n, z_k_r, z_push_s, z_push_n, okS_0, okS_I, okS_R, okS_A, List.getElem?_cons_zero, List.getElem?_cons_succ, List.length_cons, List.length_nil, List.set_cons_zero, List.set_cons_succ, true_and, and_true, z_tI, z_tB, pk_mul, nI_add, cI_cl, cI_ix, nar_0, nar_1, nar_b, Nat.reduceAdd, Nat.reduceLT, Nat.reduceMul, ↓lG_R, ↓lG_C, ↓lG_N, ↓lG_G, ↓lG_n, ↓lG_4, ↓lG_5, ↓lG_6, lG_o, ↓lG_q1, lG_q1, ↓lG_q2, lG_q2, ↓lG_q3, lG_q3, ↓lG_q4, lG_q4, ↓lG_a1, lG_a1, ↓lG_a2, lG_a2, ↓lG_a4, lG_a4, lH_R, lH_C, lH_N, lH_G, lH_n, lH_4, lH_5, lH_6, lH_q1, lH_q2, lH_q3, lH_q4, lH_a1, lH_a2, lH_a4, cI_lt, cI_eq, ↓reduceIte, if_true, if_false, Nat.lt_irrefl, eq_self, Nat.reduceEqDiff, or_true, true_or, or_false, false_or, not_false_eq_true, not_true_eq_false, ce_5, zb_t, zb_f, e5, hn]
    exact l_cyc1 hg ha hb fa fb hc k (i + 1) (by omega)
theorem l_cyc2 (hg : GI S) (hN : Q + NL S ≤ N) {a b c : Nat} (ha : a < S.R) (hb : b < S.R) (fa : S.fl a = true) (fb : S.fl b = true) (hc : c < S.C) {z : Value} : ∀ (k i : Nat) (v : Value), i + k = S.C → z_T g d 104 11 [.ref Q, .int (nI a), .int (nI b), z, .ref N, .int (nI (itn (S.pi a b) c i)), v] [] (lgw (z_up f N (bzA S.C (arr S.C fun t => zb (OB (S.pi a b) c i t)))) Q S X, q) P = P (.inr (some (.ref N)), (lgw (z_up f N (bzA S.C (arr S.C fun t => zb (S.cyc a b c t)))) Q S X, q)) := by
  have hC := hg.C5
  have hR := hg.RC
  have hπ : ∀ c, c < S.C → S.pi a b c < S.C := fun c hc => (pi_sp hg (by omega) (by omega) fa fb hc).1
  have stop : ∀ i, OB (S.pi a b) c i (itn (S.pi a b) c i) = true → ∀ v, z_T g d 104 11 [.ref Q, .int (nI a), .int (nI b), z, .ref N, .int (nI (itn (S.pi a b) c i)), v] [] (lgw (z_up f N (bzA S.C (arr S.C fun t => zb (OB (S.pi a b) c i t)))) Q S X, q) P = P (.inr (some (.ref N)), (lgw (z_up f N (bzA S.C (arr S.C fun t => zb (S.cyc a b c t)))) Q S X, q)) := by
    intro i hs v
    have hi := itn_lt hπ hc i
    have r := fun K => zA_L (F := z_up f N (bzA S.C (arr S.C fun t => zb (OB (S.pi a b) c i t)))) (z_up_self _ _ _) hi (by omega) (K := K)
    have e : OB (S.pi a b) c i = S.cyc a b c := OB_eq hπ hC hc hs
    rw [ze_104_11]
    simp (disch := omega) only [ze_104_0, ze_104_0_n, ze_104_1, ze_104_4, ze_104_6, ze_104_6_n, ze_104_8, ze_104_9, ze_104_13, ze_104_15, ze_104_16, ze_104_19, ze_104_19_n, ze_104_21, ze_104_23, ze_104_24, ze_104_25, ze_104_26, ze_104_28, ze_104_28_n, ze_104_29, ze_104_32, ze_104_33, ze_104_34, ze_104_36, ze_104_37, ze_104_37_n, ze_104_38, ze_104_41, ze_104_42, ze_104_43, ze_104_45, ze_104_46, ze_104_49, ze_104_52, ze_104_55, ze_104_57, ze_104_59, ze_104_62, ze_104_62_n, ze_104_64, ze_104_64_n, z_k_r, z_push_s, z_push_n, okS_0, okS_I, okS_R, okS_A, List.getElem?_cons_zero, List.getElem?_cons_succ, List.length_cons, List.length_nil, List.set_cons_zero, List.set_cons_succ, true_and, and_true, z_tI, z_tB, pk_mul, nI_add, cI_cl, cI_ix, nar_0, nar_1, nar_b, Nat.reduceAdd, Nat.reduceLT, Nat.reduceMul, cI_lt, cI_eq, ↓reduceIte, if_true, if_false, Nat.lt_irrefl, eq_self, Nat.reduceEqDiff, or_true, true_or, or_false, false_or, not_false_eq_true, not_true_eq_false, ce_5, zb_t, zb_f, th_aL (.inr hN), r, arr_at, hs, zb_0]
    rw [e]
  intro k
  induction k with
  | zero =>
    intro i v h
    have : i = S.C := by omega
    subst this
    exact stop _ (OB_end hπ hC hc) v
  | succ k ih =>
    intro i v h
    cases hs : OB (S.pi a b) c i (itn (S.pi a b) c i) with
    | true => exact stop i hs v
    | false =>
      have hi := itn_lt hπ hc i
      have r := fun K => zA_L (F := z_up f N (bzA S.C (arr S.C fun t => zb (OB (S.pi a b) c i t)))) (z_up_self _ _ _) hi (by omega) (K := K)
      have e : upd (arr S.C fun t => zb (OB (S.pi a b) c i t)) (itn (S.pi a b) c i) (nI 1) = arr S.C fun t => zb (OB (S.pi a b) c (i + 1) t) := by
        rw [arr_upd _ _ hi]
        refine congrArg (arr S.C) (upd_fn ?_ (fun t ht => ?_))
        · rw [OB_step]
          show zb (OB (S.pi a b) c i (itn (S.pi a b) c i) || decide (itn (S.pi a b) c i = itn (S.pi a b) c i)) = nI 1
          rw [decide_eq_true rfl, Bool.or_true]
          rfl
        · rw [OB_step]
          simp [ht]
      have w := fun f q P => l_cyc1 (g := g) (d := d) (f := f) (q := q) (P := P) (Q := Q) (X := X) hg ha hb fa fb hi (z := z) (n9 := .ref N) (S.pi a b (itn (S.pi a b) c i)) 0 (Nat.zero_add _)
      have go := fun v => ih (i + 1) v (by omega)
      rw [show itn (S.pi a b) c (i + 1) = S.pi a b (itn (S.pi a b) c i) from rfl] at go
      rw [ze_104_11]
      simp (disch := omega) only [ze_104_0, ze_104_0_n, ze_104_1, ze_104_4, ze_104_6, ze_104_6_n, ze_104_8, ze_104_9, ze_104_13, ze_104_15, ze_104_16, ze_104_19, ze_104_19_n, ze_104_21, ze_104_23, ze_104_24, ze_104_25, ze_104_26, ze_104_29, ze_104_32, ze_104_33, ze_104_34, ze_104_36, ze_104_37, ze_104_37_n, ze_104_38, ze_104_41, ze_104_42, ze_104_43, ze_104_45, ze_104_46, ze_104_49, ze_104_52, ze_104_55, ze_104_57, ze_104_59, ze_104_62, ze_104_62_n, ze_104_64, ze_104_64_n, z_k_r, z_push_s, z_push_n, okS_0, okS_I, okS_R, okS_A, List.getElem?_cons_zero, List.getElem?_cons_succ, List.length_cons, List.length_nil, List.set_cons_zero, List.set_cons_succ, true_and, and_true, z_tI, z_tB, pk_mul, nI_add, cI_cl, cI_ix, nar_0, nar_1, nar_b, Nat.reduceAdd, Nat.reduceLT, Nat.reduceMul, cI_lt, cI_eq, ↓reduceIte, if_true, if_false, Nat.lt_irrefl, eq_self, Nat.reduceEqDiff, or_true, true_or, or_false, false_or, not_false_eq_true, not_true_eq_false, ce_5, zb_t, zb_f, th_aL (.inr hN), th_aS (.inr hN), r, arr_at, hs, zb_0, zA_S, nar_1, e, w]
      exact go _
theorem l_cycle (hg : GI S) (hN : Q + NL S ≤ N) {a b c : Nat} (ha : a < S.R) (hb : b < S.R) (fa : S.fl a = true) (fb : S.fl b = true) (hc : c < S.C) : z_Ca g d 104 [.ref Q, .int (nI a), .int (nI b), .int (nI c)] (lgw f Q S X, some N, x, y) P = P (.inr (some (.ref N)), (lgw (z_up f N (bzA S.C (arr S.C fun t => zb (S.cyc a b c t)))) Q S X, some (N + 1), x + 1, y + S.C)) := by
  have hC := hg.C5
  have w := l_cyc2 (g := g) (d := d) (f := f) (q := (some (N + 1), x + 1, y + S.C)) (P := P) (X := X) hg hN ha hb fa fb hc (z := .int (nI c)) S.C 0 z_un (Nat.zero_add _)
  have e : (arr S.C fun t => zb (OB (S.pi a b) c 0 t)) = fun _ => 0 := by
    funext t
    unfold arr
    split <;> rfl
  rw [e] at w
  rw [← w, zn_104]
  simp (disch := omega) only [ze_104_0, ze_104_0_n, ze_104_1, ze_104_4, ze_104_6, ze_104_6_n, ze_104_8, ze_104_9, ze_104_13, ze_104_15, ze_104_16, ze_104_19, ze_104_19_n, ze_104_21, ze_104_23, ze_104_24, ze_104_25, ze_104_26, ze_104_28, ze_104_28_n, ze_104_29, ze_104_32, ze_104_33, ze_104_34, ze_104_36, ze_104_37, ze_104_37_n, ze_104_38, ze_104_41, ze_104_42, ze_104_43, ze_104_45, ze_104_46, ze_104_49, ze_104_52, ze_104_55, ze_104_57, ze_104_59, ze_104_62, ze_104_62_n, ze_104_64, ze_104_64_n, z_k_r, z_push_s, z_push_n, okS_0, okS_I, okS_R, okS_A, List.getElem?_cons_zero, List.getElem?_cons_succ, List.length_cons, List.length_nil, List.set_cons_zero, List.set_cons_succ, true_and, and_true, z_tI, z_tB, pk_mul, nI_add, cI_cl, cI_ix, nar_0, nar_1, nar_b, Nat.reduceAdd, Nat.reduceLT, Nat.reduceMul, ↓lG_R, ↓lG_C, ↓lG_N, ↓lG_G, ↓lG_n, ↓lG_4, ↓lG_5, ↓lG_6, lG_o, ↓lG_q1, lG_q1, ↓lG_q2, lG_q2, ↓lG_q3, lG_q3, ↓lG_q4, lG_q4, ↓lG_a1, lG_a1, ↓lG_a2, lG_a2, ↓lG_a4, lG_a4, lH_R, lH_C, lH_N, lH_G, lH_n, lH_4, lH_5, lH_6, lH_q1, lH_q2, lH_q3, lH_q4, lH_a1, lH_a2, lH_a4, nA_z, lgw_up (.inr hN)]
  rfl
end
