/-! the making of a Grid -/
section
variable {g : z_G} {d : Nat} {f : Nat → Option z_C} {P : z_Res → Prop} {a x y N : Nat} {K : Nat → z_H → Prop}
/-- new arrays of arrays -/
def mA (f : Nat → Option z_C) (q n k : Nat) : Nat → Option z_C := fun j => if j = q then some (.inl (.array .int, n, .inr (.inr (.inr (.inr fun i => if i < n then some (q + 1 + i) else none))))) else if q < j ∧ j ≤ q + n then some (.inl (.int, k, .inl fun _ => 0)) else f j
theorem mA_0 {q n k : Nat} : mA f q n k q = some (.inl (.array .int, n, .inr (.inr (.inr (.inr fun i => if i < n then some (q + 1 + i) else none))))) := if_pos rfl
theorem mA_i {q n k j : Nat} (h : q < j ∧ j ≤ q + n) : mA f q n k j = some (.inl (.int, k, .inl fun _ => 0)) := by
  unfold mA
  rw [if_neg (by omega), if_pos h]
theorem mA_o {q n k j : Nat} (h : j < q ∨ q + n < j) : mA f q n k j = f j := by
  unfold mA
  rw [if_neg (by omega), if_neg (by omega)]
theorem arr_z (n : Nat) : arr n (fun _ => 0) = fun _ => 0 := by
  funext k
  unfold arr
  split <;> rfl
theorem nA_int_5 : z_nA (f, some N, x, y) .int (nI 5) K = K N (z_up f N (.inl (.int, 5, .inl fun _ => 0)), some (N + 1), x + 1, y + 5) := by
  have h : z_na (f, some N, x, y) .int (nI 5) = some (N, (z_up f N (.inl (.int, 5, .inl fun _ => 0)), some (N + 1), x + 1, y + 5)) := by
    unfold z_na z_arr0
    dsimp only
    rw [if_pos ⟨by decide, by decide⟩, cI_cl (by omega)]
  unfold z_nA
  rw [h]
theorem nA_int_20 : z_nA (f, some N, x, y) .int (nI 20) K = K N (z_up f N (.inl (.int, 20, .inl fun _ => 0)), some (N + 1), x + 1, y + 20) := by
  have h : z_na (f, some N, x, y) .int (nI 20) = some (N, (z_up f N (.inl (.int, 20, .inl fun _ => 0)), some (N + 1), x + 1, y + 20)) := by
    unfold z_na z_arr0
    dsimp only
    rw [if_pos ⟨by decide, by decide⟩, cI_cl (by omega)]
  unfold z_nA
  rw [h]
theorem nA_int_25 : z_nA (f, some N, x, y) .int (nI 25) K = K N (z_up f N (.inl (.int, 25, .inl fun _ => 0)), some (N + 1), x + 1, y + 25) := by
  have h : z_na (f, some N, x, y) .int (nI 25) = some (N, (z_up f N (.inl (.int, 25, .inl fun _ => 0)), some (N + 1), x + 1, y + 25)) := by
    unfold z_na z_arr0
    dsimp only
    rw [if_pos ⟨by decide, by decide⟩, cI_cl (by omega)]
  unfold z_nA
  rw [h]
theorem nA_boolean_2 : z_nA (f, some N, x, y) .boolean (nI 2) K = K N (z_up f N (.inl (.boolean, 2, .inl fun _ => 0)), some (N + 1), x + 1, y + 2) := by
  have h : z_na (f, some N, x, y) .boolean (nI 2) = some (N, (z_up f N (.inl (.boolean, 2, .inl fun _ => 0)), some (N + 1), x + 1, y + 2)) := by
    unfold z_na z_arr0
    dsimp only
    rw [if_pos ⟨by decide, by decide⟩, cI_cl (by omega)]
  unfold z_nA
  rw [h]
theorem nA_boolean_25 : z_nA (f, some N, x, y) .boolean (nI 25) K = K N (z_up f N (.inl (.boolean, 25, .inl fun _ => 0)), some (N + 1), x + 1, y + 25) := by
  have h : z_na (f, some N, x, y) .boolean (nI 25) = some (N, (z_up f N (.inl (.boolean, 25, .inl fun _ => 0)), some (N + 1), x + 1, y + 25)) := by
    unfold z_na z_arr0
    dsimp only
    rw [if_pos ⟨by decide, by decide⟩, cI_cl (by omega)]
  unfold z_nA
  rw [h]
theorem nA_byte_500 : z_nA (f, some N, x, y) .byte (nI 500) K = K N (z_up f N (.inl (.byte, 500, .inl fun _ => 0)), some (N + 1), x + 1, y + 500) := by
  have h : z_na (f, some N, x, y) .byte (nI 500) = some (N, (z_up f N (.inl (.byte, 500, .inl fun _ => 0)), some (N + 1), x + 1, y + 500)) := by
    unfold z_na z_arr0
    dsimp only
    rw [if_pos ⟨by decide, by decide⟩, cI_cl (by omega)]
  unfold z_nA
  rw [h]
theorem nM_2 : z_nM .int (f, some N, x, y) (nI 2) (nI 25) K = K N (mA f N 2 25, some (N + 1 + 2), x + 1 + 2, y + 2 + 2 * 25) := by
  have h : z_ma2 .int (f, some N, x, y) (nI 2) (nI 25) = some (N, (mA f N 2 25, some (N + 1 + 2), x + 1 + 2, y + 2 + 2 * 25)) := by
    unfold z_ma2
    dsimp only
    rw [if_pos ⟨⟨by decide, by decide⟩, ⟨by decide, by decide⟩⟩, cI_cl (by omega), cI_cl (by omega)]
    rfl
  unfold z_nM
  rw [h]
theorem nM_10 : z_nM .int (f, some N, x, y) (nI 10) (nI 25) K = K N (mA f N 10 25, some (N + 1 + 10), x + 1 + 10, y + 10 + 10 * 25) := by
  have h : z_ma2 .int (f, some N, x, y) (nI 10) (nI 25) = some (N, (mA f N 10 25, some (N + 1 + 10), x + 1 + 10, y + 10 + 10 * 25)) := by
    unfold z_ma2
    dsimp only
    rw [if_pos ⟨⟨by decide, by decide⟩, ⟨by decide, by decide⟩⟩, cI_cl (by omega), cI_cl (by omega)]
    rfl
  unfold z_nM
  rw [h]
theorem nO_ (ci M : Nat) (fs : List Value) : z_nO (f, some N, x, y) ci M fs K = K N (z_up f N (.inr (ci, fs)), some (N + 1), x + 1, y + M) := rfl
theorem gw_ag {F : Nat → Option z_C} {W : GW} (h : ∀ z, z < a ∨ a + 6 ≤ z → F z = f z) : gw F a W = gw f a W := by
  unfold gw ow
  funext z
  by_cases e : a ≤ z ∧ z < a + 6
  · rw [if_pos e, if_pos e]
  · rw [if_neg e, if_neg e, h z (by omega)]
theorem x3_begin {F : Nat → Option z_C} {q : Option Nat × Nat × Nat} (hd : 0 < d) (W : GW) (hF : HB F a 6 (gb a W)) : z_Ca g d 24 [.ref a, .int (nI 2), .int (nI 2)] (F, q) P = P (.inr none, (gw F a (S0 2 2).w, q)) := by
  have := s_begin (g := g) (d := d) (f := F) (a := a) (q := q) (P := P) W hd (R := 2) (C := 2)
  unfold gw at this
  rw [ow_id hF] at this
  exact this
theorem x3_init (hd : 1 < d) (h : f a = some (.inr (3, [.null, .null, .null, .null, .null, .int 0, .int 0, .int 0, .int 0, .int 0]))) : z_Ca g d 23 [.ref a] (f, some (a + 1), x, y) P = P (.inr none, (gw f a (S0 2 2).w, some (a + 6), x + 5, y + 85)) := by
  have hd0 : 0 < d := by omega
  have hd1 : 0 < d - 1 := by omega
  rw [zn_23]
  simp (disch := omega) only [ze_23_0, ze_23_1, ze_23_4, ze_23_5, ze_23_7, ze_23_9, ze_23_12, ze_23_13, ze_23_15, ze_23_17, ze_23_20, ze_23_21, ze_23_23, ze_23_25, ze_23_28, ze_23_29, ze_23_30, ze_23_32, ze_23_35, ze_23_36, ze_23_37, ze_23_39, ze_23_42, ze_23_43, ze_23_44, ze_23_45, ze_23_48, z_k_r, z_push_s, z_push_n, okS_0, okS_I, okS_R, okS_A, List.getElem?_cons_zero, List.getElem?_cons_succ, List.length_cons, List.length_nil, List.set_cons_zero, List.set_cons_succ, true_and, and_true, z_tI, z_tB, pk_mul, nI_add, cI_cl, cI_ix, nar_0, nar_1, nar_b, Nat.reduceAdd, Nat.reduceLT, Nat.reduceMul, nA_int_25, nA_int_5, nA_boolean_25, z_pF, z_up_self, z_up_ne, h, z_gO, hd0, Nat.add_assoc]
  rw [x3_begin hd1 (fun _ => 0, fun _ => 0, fun _ => 0, fun _ => 0, fun _ => 0, nI 0, nI 0, nI 0, nI 0, nI 0)]
  · simp (disch := omega) only [ze_23_0, ze_23_1, ze_23_4, ze_23_5, ze_23_7, ze_23_9, ze_23_12, ze_23_13, ze_23_15, ze_23_17, ze_23_20, ze_23_21, ze_23_23, ze_23_25, ze_23_28, ze_23_29, ze_23_30, ze_23_32, ze_23_35, ze_23_36, ze_23_37, ze_23_39, ze_23_42, ze_23_43, ze_23_44, ze_23_45, ze_23_48, z_k_r, z_push_s, z_push_n, okS_0, okS_I, okS_R, okS_A, List.getElem?_cons_zero, List.getElem?_cons_succ, List.length_cons, List.length_nil, List.set_cons_zero, List.set_cons_succ, true_and, and_true, z_tI, z_tB, pk_mul, nI_add, cI_cl, cI_ix, nar_0, nar_1, nar_b, Nat.reduceAdd, Nat.reduceLT, Nat.reduceMul]
    rw [gw_ag]
    · intro z hz
      simp (disch := omega) only [z_up_ne]
  · intro k hk
    rcases (show k = 0 ∨ k = 1 ∨ k = 2 ∨ k = 3 ∨ k = 4 ∨ k = 5 by omega) with rfl | rfl | rfl | rfl | rfl | rfl
    · simp (disch := omega) only [z_up_self, z_up_ne, Nat.add_zero]
      rfl
    all_goals
      simp (disch := omega) only [z_up_self, z_up_ne, gb, arr_z, pGW_A, pGW_V, pGW_B, pGW_r, pGW_c, pGW_R, pGW_C, pGW_F, pGW_G, pGW_N, pGS_c, pGS_gv, pGS_b, pGS_R, pGS_C, pGS_G, pGS_N]
end
