/-! the making of the class -/
section
variable {g : z_G} {d : Nat} {f : Nat → Option z_C} {P : z_Res → Prop} {B x y N : Nat} {K : Nat → z_H → Prop}
theorem gw_o {a z : Nat} {W : GW} (h : z < a ∨ a + 6 ≤ z) : gw f a W z = f z := ow_out h
theorem gw_at {a z : Nat} {W : GW} (h : a ≤ z ∧ z < a + 6) : gw f a W z = some (gb a W (z - a)) := by
  unfold gw ow
  rw [if_pos h]
def I00 : Nat → Int32 := fun i => if i = 14 then -1 else 0
theorem x9_init (hd : 5 < d) (h : f B = some (.inr (9, [.null, .null, .null, .null, .null, .null, .null, .null, .null, .null, .int 0]))) : z_Ca g d 79 [.ref B] (f, some (B + 1), x, y) P = P (.inr none, (xw f B (fun _ => S0 2 2) I00 (fun _ _ => 0), some (B + 47), x + 46, y + 2000)) := by
  obtain ⟨e, rfl⟩ : ∃ e, d = e + 3 := ⟨d - 3, by omega⟩
  have hd0 : 0 < e + 3 := by omega
  have hd1 : 0 < e + 2 := by omega
  have hd2 : 0 < e + 1 := by omega
  have de : e + 3 - 1 = e + 2 := rfl
  have de1 : e + 2 - 1 = e + 1 := rfl
  have de2 : e + 1 - 1 = e := rfl
  rw [zn_79]
  simp (disch := omega) only [ze_79_0, ze_79_1, ze_79_4, ze_79_5, ze_79_8, ze_79_8_i, ze_79_9, ze_79_12, ze_79_15, ze_79_16, ze_79_19, ze_79_19_i, ze_79_20, ze_79_23, ze_79_26, ze_79_27, ze_79_30, ze_79_30_i, ze_79_31, ze_79_32, ze_79_35, ze_79_38, ze_79_41, ze_79_42, ze_79_45, ze_79_45_i, ze_79_46, ze_79_47, ze_79_50, ze_79_53, ze_79_56, ze_79_57, ze_79_60, ze_79_60_i, ze_79_61, ze_79_62, ze_79_65, ze_79_68, ze_79_71, ze_79_72, ze_79_75, ze_79_75_i, ze_79_76, ze_79_77, ze_79_80, ze_79_83, ze_79_86, ze_79_87, ze_79_90, ze_79_90_i, ze_79_91, ze_79_92, ze_79_95, ze_79_98, ze_79_101, ze_79_102, ze_79_105, ze_79_105_i, ze_79_106, ze_79_109, ze_79_112, ze_79_113, ze_79_116, ze_79_116_i, ze_79_117, ze_79_120, ze_79_123, ze_79_124, ze_79_125, ze_79_127, ze_79_130, ze_79_131, ze_79_132, ze_79_135, z_k_r, z_push_s, z_push_n, okS_0, okS_I, okS_R, okS_A, List.getElem?_cons_zero, List.getElem?_cons_succ, List.length_cons, List.length_nil, List.set_cons_zero, List.set_cons_succ, true_and, and_true, z_tI, z_tB, pk_mul, nI_add, cI_cl, cI_ix, nar_0, nar_1, nar_b, Nat.reduceAdd, Nat.reduceLT, Nat.reduceMul, nO_, hd0, hd1, de, de1, Nat.add_assoc]
  rw [x3_init (by omega) (z_up_self _ _ _)]
  simp (disch := omega) only [ze_79_0, ze_79_1, ze_79_4, ze_79_5, ze_79_8, ze_79_8_i, ze_79_9, ze_79_12, ze_79_15, ze_79_16, ze_79_19, ze_79_19_i, ze_79_20, ze_79_23, ze_79_26, ze_79_27, ze_79_30, ze_79_30_i, ze_79_31, ze_79_32, ze_79_35, ze_79_38, ze_79_41, ze_79_42, ze_79_45, ze_79_45_i, ze_79_46, ze_79_47, ze_79_50, ze_79_53, ze_79_56, ze_79_57, ze_79_60, ze_79_60_i, ze_79_61, ze_79_62, ze_79_65, ze_79_68, ze_79_71, ze_79_72, ze_79_75, ze_79_75_i, ze_79_76, ze_79_77, ze_79_80, ze_79_83, ze_79_86, ze_79_87, ze_79_90, ze_79_90_i, ze_79_91, ze_79_92, ze_79_95, ze_79_98, ze_79_101, ze_79_102, ze_79_105, ze_79_105_i, ze_79_106, ze_79_109, ze_79_112, ze_79_113, ze_79_116, ze_79_116_i, ze_79_117, ze_79_120, ze_79_123, ze_79_124, ze_79_125, ze_79_127, ze_79_130, ze_79_131, ze_79_132, ze_79_135, zn_63, ze_63_0, ze_63_1, ze_63_4, ze_63_5, ze_63_8, ze_63_10, ze_63_13, z_k_r, z_push_s, z_push_n, okS_0, okS_I, okS_R, okS_A, List.getElem?_cons_zero, List.getElem?_cons_succ, List.length_cons, List.length_nil, List.set_cons_zero, List.set_cons_succ, true_and, and_true, z_tI, z_tB, pk_mul, nI_add, cI_cl, cI_ix, nar_0, nar_1, nar_b, Nat.reduceAdd, Nat.reduceLT, Nat.reduceMul, nO_, nA_byte_500, z_pF, z_gR, z_gO, gw_o, h, z_up_self, z_up_ne, hd0, hd1, de, de1, Nat.add_assoc, zn_47, ze_47_0, ze_47_1, ze_47_4, ze_47_5, ze_47_8, ze_47_8_i, ze_47_9, ze_47_12, ze_47_15, ze_47_16, ze_47_17, ze_47_20]
  rw [x3_init (by omega) (z_up_self _ _ _)]
  sorry
end
