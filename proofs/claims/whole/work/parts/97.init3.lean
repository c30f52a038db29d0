/-! the making of the reference -/
section
variable {g : z_G} {d : Nat} {f : Nat → Option z_C} {P : z_Res → Prop} {m x y N : Nat}
def J00 : Nat → Int32 := fun i => if i = 20 then -1 else 0
theorem al13 {p : Nat → Prop} (h0 : p 0) (h1 : p 1) (h2 : p 2) (h3 : p 3) (h4 : p 4) (h5 : p 5) (h6 : p 6) (h7 : p 7) (h8 : p 8) (h9 : p 9) (h10 : p 10) (h11 : p 11) (h12 : p 12) : ∀ k, k < 13 → p k := by
  intro k hk
  rcases (show k = 0 ∨ k = 1 ∨ k = 2 ∨ k = 3 ∨ k = 4 ∨ k = 5 ∨ k = 6 ∨ k = 7 ∨ k = 8 ∨ k = 9 ∨ k = 10 ∨ k = 11 ∨ k = 12 by omega) with rfl | rfl | rfl | rfl | rfl | rfl | rfl | rfl | rfl | rfl | rfl | rfl | rfl
  · exact h0
  · exact h1
  · exact h2
  · exact h3
  · exact h4
  · exact h5
  · exact h6
  · exact h7
  · exact h8
  · exact h9
  · exact h10
  · exact h11
  · exact h12
theorem x10_a (h : f m = some (.inr (10, [.int 0, .int 0, .int 0, .int 0, .int 0, .int 0, .int 0, .null, .null, .null, .null, .null, .null, .int 0, .int 0, .int 0, .int 0, .int 0, .int 0, .int 0, .int 0, .int 0, .null, .int 0, .null, .null, .null, .null, .null]))) : z_Ca g d 120 [.ref m] (f, some (m + 1), x, y) P = z_T g d 120 106 [.ref m] [] (mw f m J00 (fun _ _ => 0), some (m + 13), x + 12, y + 1002) P := by
  rw [zn_120]
  simp (disch := omega) only [ze_120_0, ze_120_1, ze_120_4, ze_120_5, ze_120_7, ze_120_9, ze_120_12, ze_120_13, ze_120_15, ze_120_17, ze_120_20, ze_120_21, ze_120_23, ze_120_25, ze_120_28, ze_120_29, ze_120_31, ze_120_33, ze_120_36, ze_120_37, ze_120_39, ze_120_41, ze_120_44, ze_120_45, ze_120_48, ze_120_50, ze_120_53, ze_120_54, ze_120_55, ze_120_58, ze_120_59, ze_120_61, ze_120_63, ze_120_66, ze_120_67, ze_120_70, ze_120_72, ze_120_75, ze_120_76, ze_120_78, ze_120_80, ze_120_83, ze_120_84, ze_120_86, ze_120_88, ze_120_91, ze_120_92, ze_120_94, ze_120_96, ze_120_99, ze_120_100, ze_120_101, ze_120_103, ze_120_107, ze_120_110, ze_120_111, ze_120_112, ze_120_115, ze_120_116, ze_120_117, ze_120_120, ze_120_121, ze_120_124, ze_120_125, ze_120_128, z_k_r, z_push_s, z_push_n, okS_0, okS_I, okS_R, okS_A, List.getElem?_cons_zero, List.getElem?_cons_succ, List.length_cons, List.length_nil, List.set_cons_zero, List.set_cons_succ, true_and, and_true, z_tI, z_tB, pk_mul, nI_add, cI_cl, cI_ix, nar_0, nar_1, nar_b, Nat.reduceAdd, Nat.reduceLT, Nat.reduceMul, nA_int_25, nA_int_50, nA_int_250, nA_byte_500, nA_boolean_2, z_pF, h, z_up_self, z_up_ne, Nat.add_assoc]
  refine congrArg (fun z => z_T g d 120 106 [.ref m] [] z P) ?_
  refine congr (congrArg Prod.mk ?_) ?_
  · refine ow_eq (fun k hk => ?_) (fun z hz => ?_)
    · revert k
      refine al13 ?_ ?_ ?_ ?_ ?_ ?_ ?_ ?_ ?_ ?_ ?_ ?_ ?_
      all_goals
        simp (disch := omega) only [z_up_self, z_up_ne, Nat.add_zero, Nat.add_assoc, Nat.reduceAdd, mb, arr_z]
      all_goals rfl
    · simp (disch := omega) only [z_up_ne]
  · rfl
theorem x10_init (hd : 5 < d) (h : f m = some (.inr (10, [.int 0, .int 0, .int 0, .int 0, .int 0, .int 0, .int 0, .null, .null, .null, .null, .null, .null, .int 0, .int 0, .int 0, .int 0, .int 0, .int 0, .int 0, .int 0, .int 0, .null, .int 0, .null, .null, .null, .null, .null]))) : ∃ J K, J 0 = nI 0 ∧ J 3 = nI 0 ∧ J 13 = nI 0 ∧ J 20 = -1 ∧ J 23 = nI 0 ∧ MH J K (S0 2 2) ∧ (∀ k, k < 25 → K 1 k = -1) ∧ (∀ k, k < 500 → K 6 k = nI 0) ∧ (∀ s, s < 2 → K 12 s = nI 0) ∧ ∀ (x y : Nat) (P : z_Res → Prop), z_Ca g d 120 [.ref m] (f, some (m + 1), x, y) P = P (.inr none, (mw f m J K, some (m + 13), x + 12, y + 1002)) := by
  have hd0 : 0 < d := by omega
  obtain ⟨K1, a1, a2, a3⟩ := n_cdraft (g := g) (d := d - 1) (f := f) (m := m) (J := J00) (fun _ _ => 0)
  obtain ⟨J1, j1⟩ : ∃ J1, J1 = upd (upd (upd J00 6 (nI 0)) 4 (nI 2)) 5 (nI 2) := ⟨_, rfl⟩
  obtain ⟨K5, l1, l2, l3⟩ := n_lift (g := g) (d := d - 1) (f := f) (m := m) (J := J1) K1
  obtain ⟨K6, k1, k2, k3, k4⟩ := n_begin (g := g) (d := d - 1) (f := f) (m := m) (J := upd (upd (upd J1 1 (J1 4)) 2 (J1 5)) 3 (J1 6)) K5
  have hDM : DM J1 K1 (S0 2 2) := by
    rw [j1]
    exact ⟨rfl, rfl, rfl, fun k hk => (a2 k hk).1, fun k hk => (a2 k hk).2⟩
  refine ⟨upd (upd (upd (upd J1 1 (J1 4)) 2 (J1 5)) 3 (J1 6)) 23 (nI 0), K6, by rw [j1]; rfl, by rw [j1]; rfl, by rw [j1]; rfl, by rw [j1]; rfl, by rw [j1]; rfl, ?_, ?_, ?_, k3, fun x y P => ?_⟩
  · refine DM_MH hDM rfl rfl (fun k hk => ?_) (fun k hk => ?_)
    · rw [k2 k hk, (l2 k hk).1]
    · rw [k1 2 (by omega) (by omega), (l2 k hk).2]
  · intro k hk
    rw [k1 1 (by omega) (by omega), (l2 k hk).1]
    exact (a2 k hk).1
  · intro k hk
    rw [k1 6 (by omega) (by omega), l1 6 (by omega) (by omega), a1 6 (by omega) (by omega)]
    rfl
  · rw [x10_a h]
    simp (disch := omega) only [ze_120_0, ze_120_1, ze_120_4, ze_120_5, ze_120_7, ze_120_9, ze_120_12, ze_120_13, ze_120_15, ze_120_17, ze_120_20, ze_120_21, ze_120_23, ze_120_25, ze_120_28, ze_120_29, ze_120_31, ze_120_33, ze_120_36, ze_120_37, ze_120_39, ze_120_41, ze_120_44, ze_120_45, ze_120_48, ze_120_50, ze_120_53, ze_120_54, ze_120_55, ze_120_58, ze_120_59, ze_120_61, ze_120_63, ze_120_66, ze_120_67, ze_120_70, ze_120_72, ze_120_75, ze_120_76, ze_120_78, ze_120_80, ze_120_83, ze_120_84, ze_120_86, ze_120_88, ze_120_91, ze_120_92, ze_120_94, ze_120_96, ze_120_99, ze_120_100, ze_120_101, ze_120_103, ze_120_106, ze_120_107, ze_120_110, ze_120_111, ze_120_112, ze_120_115, ze_120_116, ze_120_117, ze_120_120, ze_120_121, ze_120_124, ze_120_125, ze_120_128, z_k_r, z_push_s, z_push_n, okS_0, okS_I, okS_R, okS_A, List.getElem?_cons_zero, List.getElem?_cons_succ, List.length_cons, List.length_nil, List.set_cons_zero, List.set_cons_succ, true_and, and_true, z_tI, z_tB, pk_mul, nI_add, cI_cl, cI_ix, nar_0, nar_1, nar_b, Nat.reduceAdd, Nat.reduceLT, Nat.reduceMul, ↓mg_0_q, mg_0, ↓mp_0_q, mp_0, ↓mg_1_q, mg_1, ↓mp_1_q, mp_1, ↓mg_2_q, mg_2, ↓mp_2_q, mp_2, ↓mg_3_q, mg_3, ↓mp_3_q, mp_3, ↓mg_4_q, mg_4, ↓mp_4_q, mp_4, ↓mg_5_q, mg_5, ↓mp_5_q, mp_5, ↓mg_6_q, mg_6, ↓mp_6_q, mp_6, ↓mg_7_q, mg_7, ↓mg_8_q, mg_8, ↓mg_9_q, mg_9, ↓mg_10_q, mg_10, ↓mg_11_q, mg_11, ↓mg_12_q, mg_12, ↓mg_13_q, mg_13, ↓mp_13_q, mp_13, ↓mg_14_q, mg_14, ↓mp_14_q, mp_14, ↓mg_15_q, mg_15, ↓mp_15_q, mp_15, ↓mg_16_q, mg_16, ↓mp_16_q, mp_16, ↓mg_17_q, mg_17, ↓mp_17_q, mp_17, ↓mg_18_q, mg_18, ↓mp_18_q, mp_18, ↓mg_19_q, mg_19, ↓mp_19_q, mp_19, ↓mg_20_q, mg_20, ↓mp_20_q, mp_20, ↓mg_21_q, mg_21, ↓mp_21_q, mp_21, ↓mg_22_q, mg_22, ↓mg_23_q, mg_23, ↓mp_23_q, mp_23, ↓mg_24_q, mg_24, ↓mg_25_q, mg_25, ↓mg_26_q, mg_26, ↓mg_27_q, mg_27, ↓mg_28_q, mg_28, ↓mL_1_q, mL_1, ↓mS_1_q, mS_1, ↓mL_2_q, mL_2, ↓mS_2_q, mS_2, ↓mL_3_q, mL_3, ↓mS_3_q, mS_3, ↓mL_4_q, mL_4, ↓mS_4_q, mS_4, ↓mL_5_q, mL_5, ↓mS_5_q, mS_5, ↓mL_6_q, mL_6, ↓mS_6_q, mS_6, ↓mL_7_q, mL_7, ↓mS_7_q, mS_7, ↓mL_8_q, mL_8, ↓mS_8_q, mS_8, ↓mL_9_q, mL_9, ↓mS_9_q, mS_9, ↓mL_10_q, mL_10, ↓mS_10_q, mS_10, ↓mL_11_q, mL_11, ↓mS_11_q, mS_11, ↓mL_12_q, mL_12, ↓mS_12_q, mS_12, m_gO, uA_s, uA_n, hd0, ↓a3, ← j1, ↓l3, ↓k4]
/-- at the start -/
theorem INV_0 {J : Nat → Int32} {K : Nat → Nat → Int32} (h3 : J 3 = nI 0) (h13 : J 13 = nI 0) (h20 : J 20 = -1) (h23 : J 23 = nI 0) (hM : MH J K (S0 2 2)) (k1 : ∀ k, k < 25 → K 1 k = -1) (k6 : ∀ k, k < 500 → K 6 k = nI 0) (k12 : ∀ s, s < 2 → K 12 s = nI 0) : INV (fun _ => S0 2 2) I00 (fun _ _ => 0) J K :=
  ⟨GI_S0 (by omega) (by omega) (by omega) (by omega), hM, ⟨h3, Nat.zero_le _⟩, ⟨fun _ => 5, fun _ => Nat.le_refl _, k1, fun _ _ => rfl, nF_5.symm⟩, ⟨fun _ => 0, 0, rfl, rfl⟩, ⟨0, fun _ => 0, by omega, rfl, h13, fun _ => (show 0 < 256 by omega), fun _ _ => (show (0 : Int32) = bs 0 by decide), fun k hk => (k6 k hk).trans (show nI 0 = bs 0 by decide)⟩, h20.symm, ⟨0, 0, fun _ _ => 0, by omega, by omega, rfl, rfl, h23, fun i hi => absurd hi (by omega)⟩, ⟨fun _ => false, fun _ _ => 0, fun s hs => ⟨rfl, k12 s hs, fun z => nomatch z⟩⟩⟩
theorem mw_ag {F : Nat → Option z_C} {J : Nat → Int32} {K : Nat → Nat → Int32} (h : ∀ z, z < m ∨ m + 13 ≤ z → F z = f z) : mw F m J K = mw f m J K := by
  unfold mw ow
  funext z
  by_cases e : m ≤ z ∧ z < m + 13
  · rw [if_pos e, if_pos e]
  · rw [if_neg e, if_neg e, h z (by omega)]
theorem xw_ag {F : Nat → Option z_C} {B : Nat} {G : Nat → GS} {I : Nat → Int32} {A : Nat → Nat → Int32} (h : ∀ z, z < B ∨ B + 47 ≤ z → F z = f z) : xw F B G I A = xw f B G I A := by
  unfold xw ow
  funext z
  by_cases e : B ≤ z ∧ z < B + 47
  · rw [if_pos e, if_pos e]
  · rw [if_neg e, if_neg e, h z (by omega)]
theorem lw_up {o : Nat} {c : Nat → Int64} : z_up f o (.inl (.long, 1, .inr (.inl c))) = lw f o c := by
  unfold z_up lw ow
  funext z
  by_cases e : z = o
  · rw [if_pos e, if_pos (by omega)]
  · rw [if_neg e, if_neg (by omega)]
theorem HH_0 {B : Nat} {G : Nat → GS} {I : Nat → Int32} {A : Nat → Nat → Int32} {J : Nat → Int32} {K : Nat → Nat → Int32} {c : Nat → Int64} (u v : z_C) : z_up (mw (z_up (xw (z_up f B u) B G I A) (B + 47) v) (B + 47) J K) (B + 60) (.inl (.long, 1, .inr (.inl c))) = xw (mw (lw f (B + 60) c) (B + 47) J K) B G I A := by
  rw [mw_ag (f := xw f B G I A), HH_sw (by omega)]
  · show z_up (ow _ (B + 47) 13 _) (B + 60) _ = ow (ow _ B 47 _) (B + 47) 13 _
    rw [ow_upo _ (.inr (by omega))]
    show ow (z_up (ow _ B 47 _) (B + 60) _) (B + 47) 13 _ = _
    rw [ow_upo _ (.inr (by omega)), lw_up]
  · intro z hz
    rw [z_up_ne (by omega), xw_ag]
    intro z hz
    rw [z_up_ne (by omega)]
/-- the law from its first instruction -/
theorem law_all {P : z_Res → Prop} {B : Nat} {f : Nat → Option z_C} (hd : 62 < d) (hg : g.1 ≤ 3072) (hP : ∀ (h' : Nat → Option z_C) (q' : Option Nat × Nat × Nat), q'.2.1 ≤ 700 → q'.2.2 ≤ 6000 → P (.inr (some (.int (nI 1))), (h', q'))) : z_Ca g d 224 [.retAddr 99] (f, some B, 0, 0) P := by
  have hd0 : 0 < d := by omega
  rw [zn_224]
  simp (disch := omega) only [ze_224_0, ze_224_3, ze_224_3_i, nO_, z_k_r, z_push_s, z_push_n, okS_0, okS_I, okS_R, okS_A, List.getElem?_cons_zero, List.getElem?_cons_succ, List.length_cons, List.length_nil, List.set_cons_zero, List.set_cons_succ, true_and, and_true, z_tI, z_tB, pk_mul, nI_add, cI_cl, cI_ix, nar_0, nar_1, nar_b, Nat.reduceAdd, Nat.reduceLT, Nat.reduceMul]
  rw [ze_224_4, x9_init (by omega) (z_up_self _ _ _)]
  obtain ⟨J, K, j0, j3, j13, j20, j23, jM, k1, k6, k12, hx⟩ := x10_init (g := g) (d := d - 1) (f := z_up (xw (z_up f B (.inr (9, [.null, .null, .null, .null, .null, .null, .null, .null, .null, .null, .int 0]))) B (fun _ => S0 2 2) I00 (fun _ _ => 0)) (B + 47) (.inr (10, [.int 0, .int 0, .int 0, .int 0, .int 0, .int 0, .int 0, .null, .null, .null, .null, .null, .null, .int 0, .int 0, .int 0, .int 0, .int 0, .int 0, .int 0, .int 0, .int 0, .null, .int 0, .null, .null, .null, .null, .null]))) (m := B + 47) (by omega) (z_up_self _ _ _)
  simp (disch := omega) only [ze_224_7, ze_224_8, ze_224_11, ze_224_11_i, nO_, z_k_r, z_push_s, z_push_n, okS_0, okS_I, okS_R, okS_A, List.getElem?_cons_zero, List.getElem?_cons_succ, List.length_cons, List.length_nil, List.set_cons_zero, List.set_cons_succ, true_and, and_true, z_tI, z_tB, pk_mul, nI_add, cI_cl, cI_ix, nar_0, nar_1, nar_b, Nat.reduceAdd, Nat.reduceLT, Nat.reduceMul, hd0]
  rw [ze_224_12, hx]
  simp (disch := omega) only [ze_224_15, ze_224_16, ze_224_17, ze_224_19, ze_224_20, ze_224_21, nA_long_1, z_k_r, z_push_s, z_push_n, okS_0, okS_I, okS_R, okS_A, List.getElem?_cons_zero, List.getElem?_cons_succ, List.length_cons, List.length_nil, List.set_cons_zero, List.set_cons_succ, true_and, and_true, z_tI, z_tB, pk_mul, nI_add, cI_cl, cI_ix, nar_0, nar_1, nar_b, Nat.reduceAdd, Nat.reduceLT, Nat.reduceMul, hd0, Nat.add_assoc, HH_0]
  exact law_lp (by omega) (by omega) (by omega) hg 512 0 (fun _ => S0 2 2) I00 (fun _ _ => 0) J K _ _ _ _ (by omega) (by omega) (INV_0 j3 j13 j20 j23 jM k1 k6 k12) (fun h' q' h1 h2 => hP h' q' (by dsimp only at h1; omega) (by dsimp only at h2; omega))
end
