/-! the loop of the law -/
section
variable {g : z_G} {d : Nat} {f : Nat → Option z_C} {P : z_Res → Prop} {B m o : Nat}
theorem lim_6 {L i : Nat} (hL : L ≤ 3072) (hi : i ≤ 4000) : (nI L - nI 6 < nI i) = (L < i + 6) := by
  by_cases h : 6 ≤ L
  · rw [cI_sub h, cI_lt (by omega) (by omega)]
    exact propext ⟨fun x => by omega, fun x => by omega⟩
  · have h1 : nI L - nI 6 < nI 0 := by
      rcases (show L = 0 ∨ L = 1 ∨ L = 2 ∨ L = 3 ∨ L = 4 ∨ L = 5 by omega) with rfl | rfl | rfl | rfl | rfl | rfl <;> decide
    have h2 : ¬ nI i < nI 0 := by rw [cI_lt (by omega) (by omega)]; omega
    have h3 : nI L - nI 6 < nI i := by
      by_cases e : i = 0
      · rw [e]; exact h1
      · exact Int32.lt_trans h1 (by rw [cI_lt (by omega) (by omega)]; omega)
    exact propext ⟨fun _ => by omega, fun _ => h3⟩
theorem and31 (x : Int32) : ∃ j, j < 32 ∧ x &&& nI 31 = nI j := by
  refine ⟨x.toBitVec.toNat % 32, Nat.mod_lt _ (by omega), ?_⟩
  refine Int32.toBitVec_inj.mp (BitVec.eq_of_toNat_eq ?_)
  show (x.toBitVec &&& 31#32).toNat = (BitVec.ofNat 32 (x.toBitVec.toNat % 32)).toNat
  have e := Nat.and_two_pow_sub_one_eq_mod x.toBitVec.toNat 5
  rw [show 2 ^ 5 - 1 = 31 from rfl, show 2 ^ 5 = 32 from rfl] at e
  rw [BitVec.toNat_and, BitVec.toNat_ofNat, show 31 % 2 ^ 32 = 31 from rfl, e, BitVec.toNat_ofNat]
  omega
theorem law_lp (hd : 60 < d) (hb : B + 47 ≤ m) (ho : m + 13 ≤ o) (hg : g.1 ≤ 3072) : ∀ (k i : Nat) (G : Nat → GS) (I : Nat → Int32) (A : Nat → Nat → Int32) (J : Nat → Int32) (K : Nat → Nat → Int32) (c : Nat → Int64) (q : Option Nat × Nat × Nat) (v5 v6 : Value), g.1 < i + 6 * k + 6 → i ≤ g.1 → INV G I A J K → (∀ (h' : Nat → Option z_C) (q' : Option Nat × Nat × Nat), q'.2.1 ≤ q.2.1 + k → q'.2.2 ≤ q.2.2 + 6 * k → P (.inr (some (.int (nI 1))), (h', q'))) → z_T g d 224 23 [.retAddr 99, .ref B, .ref m, .ref o, .int (nI i), v5, v6] [] (xw (mw (lw f o c) m J K) B G I A, q) P
  | k, i, G, I, A, J, K, c, q, v5, v6, hk, hi, hI, hP => by
    have hl := lim_6 hg (by omega : i ≤ 4000)
    by_cases h : g.1 < i + 6
    · rw [ze_224_23]
      simp (disch := omega) only [ze_224_25, ze_224_26, ze_224_27, ze_224_29, ze_224_30, ze_224_1849, ze_224_1850, z_k_r, z_push_s, z_push_n, okS_0, okS_I, okS_R, okS_A, List.getElem?_cons_zero, List.getElem?_cons_succ, List.length_cons, List.length_nil, List.set_cons_zero, List.set_cons_succ, true_and, and_true, z_tI, z_tB, pk_mul, nI_add, cI_cl, cI_ix, nar_0, nar_1, nar_b, Nat.reduceAdd, Nat.reduceLT, Nat.reduceMul, cI_lt, cI_eq, ↓reduceIte, if_true, if_false, Nat.lt_irrefl, eq_self, Nat.reduceEqDiff, or_true, true_or, or_false, false_or, not_false_eq_true, not_true_eq_false, ce_5, zb_t, zb_f, hl, h]
      exact hP _ _ (by omega) (by omega)
    · have hx : z_idx (nI i) g.1 = true := cI_ix (by omega) (by omega)
      obtain ⟨j, hj, ej⟩ := and31 (g.2 i)
      have hN : ∀ (G' : Nat → GS) (I' : Nat → Int32) (A' : Nat → Nat → Int32) (J' : Nat → Int32) (K' : Nat → Nat → Int32) (c' : Nat → Int64) (q' : Option Nat × Nat × Nat) (v5 v6 : Value), INV G' I' A' J' K' → q'.2.1 ≤ q.2.1 + 1 → q'.2.2 ≤ q.2.2 + 6 → z_T g d 224 1843 [.retAddr 99, .ref B, .ref m, .ref o, .int (nI i), v5, v6] [] (xw (mw (lw f o c') m J' K') B G' I' A', q') P := fun G' I' A' J' K' c' q' v5 v6 hI' h1 h2 => by
        simp (disch := omega) only [ze_224_1843, ze_224_1846, z_k_r, z_push_s, z_push_n, okS_0, okS_I, okS_R, okS_A, List.getElem?_cons_zero, List.getElem?_cons_succ, List.length_cons, List.length_nil, List.set_cons_zero, List.set_cons_succ, true_and, and_true, z_tI, z_tB, pk_mul, nI_add, cI_cl, cI_ix, nar_0, nar_1, nar_b, Nat.reduceAdd, Nat.reduceLT, Nat.reduceMul]
        refine law_lp hd hb ho hg (k - 1) (i + 6) G' I' A' J' K' c' q' v5 v6 (by omega) (by omega) hI' (fun h' q2 h3 h4 => hP h' q2 (by omega) (by omega))
      rw [ze_224_23]
      simp (disch := omega) only [ze_224_25, ze_224_26, ze_224_27, ze_224_29, ze_224_30, ze_224_33, ze_224_34, ze_224_37, ze_224_39, ze_224_36 hx, z_k_r, z_push_s, z_push_n, okS_0, okS_I, okS_R, okS_A, List.getElem?_cons_zero, List.getElem?_cons_succ, List.length_cons, List.length_nil, List.set_cons_zero, List.set_cons_succ, true_and, and_true, z_tI, z_tB, pk_mul, nI_add, cI_cl, cI_ix, nar_0, nar_1, nar_b, Nat.reduceAdd, Nat.reduceLT, Nat.reduceMul, cI_lt, cI_eq, ↓reduceIte, if_true, if_false, Nat.lt_irrefl, eq_self, Nat.reduceEqDiff, or_true, true_or, or_false, false_or, not_false_eq_true, not_true_eq_false, ce_5, zb_t, zb_f, hl, h, ej]
      rcases (show j = 0 ∨ j = 1 ∨ j = 2 ∨ j = 3 ∨ j = 4 ∨ j = 5 ∨ j = 6 ∨ j = 7 ∨ j = 8 ∨ j = 9 ∨ j = 10 ∨ j = 11 ∨ j = 12 ∨ j = 13 ∨ j = 14 ∨ j = 15 ∨ j = 16 ∨ j = 17 ∨ j = 18 ∨ j = 19 ∨ j = 20 ∨ j = 21 ∨ j = 22 ∨ j = 23 ∨ j = 24 ∨ j = 25 ∨ j = 26 ∨ j = 27 ∨ j = 28 ∨ j = 29 ∨ j = 30 ∨ j = 31 by omega) with rfl | rfl | rfl | rfl | rfl | rfl | rfl | rfl | rfl | rfl | rfl | rfl | rfl | rfl | rfl | rfl | rfl | rfl | rfl | rfl | rfl | rfl | rfl | rfl | rfl | rfl | rfl | rfl | rfl | rfl | rfl | rfl
      · rw [ze_224_40_0]
        exact st_0 hI hd hb ho (by omega) hg hN
      · rw [ze_224_40_1]
        exact st_1 hI hd hb ho (by omega) hg hN
      · rw [ze_224_40_2]
        exact st_2 hI hd hb ho (by omega) hg hN
      · rw [ze_224_40_3]
        exact st_3 hI hd hb ho (by omega) hg hN
      · rw [ze_224_40_4]
        exact st_4 hI hd hb ho (by omega) hg hN
      · rw [ze_224_40_5]
        exact st_5 hI hd hb ho (by omega) hg hN
      · rw [ze_224_40_6]
        exact st_6 hI hd hb ho (by omega) hg hN
      · rw [ze_224_40_7]
        exact st_7 hI hd hb ho (by omega) hg hN
      · rw [ze_224_40_8]
        exact st_8 hI hd hb ho (by omega) hg hN
      · rw [ze_224_40_9]
        exact st_9 hI hd hb ho (by omega) hg hN
      · rw [ze_224_40_10]
        exact st_10 hI hd hb ho (by omega) hg hN
      · rw [ze_224_40_11]
        exact st_11 hI hd hb ho (by omega) hg hN
      · rw [ze_224_40_12]
        exact st_12 hI hd hb ho (by omega) hg hN
      · rw [ze_224_40_13]
        exact st_13 hI hd hb ho (by omega) hg hN
      · rw [ze_224_40_14]
        exact st_14 hI hd hb ho (by omega) hg hN
      · rw [ze_224_40_15]
        exact st_15 hI hd hb ho (by omega) hg hN
      · rw [ze_224_40_16]
        exact st_16 hI hd hb ho (by omega) hg hN
      · rw [ze_224_40_17]
        exact st_17 hI hd hb ho (by omega) hg hN
      · rw [ze_224_40_18]
        exact st_18 hI hd hb ho (by omega) hg hN
      · rw [ze_224_40_19]
        exact st_19 hI hd hb ho (by omega) hg hN
      · rw [ze_224_40_20]
        exact st_20 hI hd hb ho (by omega) hg hN
      · rw [ze_224_40_21]
        exact st_21 hI hd hb ho (by omega) hg hN
      · rw [ze_224_40_22]
        exact st_22 hI hd hb ho (by omega) hg hN
      · rw [ze_224_40_23]
        exact st_23 hI hd hb ho (by omega) hg hN
      · rw [ze_224_40_24]
        exact st_24 hI hd hb ho (by omega) hg hN
      · rw [ze_224_40_25]
        exact st_25 hI hd hb ho (by omega) hg hN
      · rw [ze_224_40_26]
        exact st_26 hI hd hb ho (by omega) hg hN
      · rw [ze_224_40_27]
        exact st_27 hI hd hb ho (by omega) hg hN
      · rw [ze_224_40_28]
        exact st_28 hI hd hb ho (by omega) hg hN
      · rw [ze_224_40_29]
        exact st_29 hI hd hb ho (by omega) hg hN
      · rw [ze_224_40_30]
        exact st_30 hI hd hb ho (by omega) hg hN
      · rw [ze_224_40_31]
        exact st_31 hI hd hb ho (by omega) hg hN
termination_by k => k
decreasing_by omega
end
