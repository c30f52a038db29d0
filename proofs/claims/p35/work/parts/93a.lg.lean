/-! the law's Grid: its cells from Q on -/
abbrev LX : Type := Int32 × Value × Value × Value × Value
def lo (t : FieldType) (n : Nat) (F : Nat → Nat) : z_C := .inl (.array t, n, .inr (.inr (.inr (.inr fun i => if i < n then some (F i) else none))))
def lgf (Q : Nat) (S : GS) (X : LX) : List Value := [.int (nI S.R), .int (nI S.C), .int (nI S.N), .int (nI S.G), .ref (Q + 1), .ref (Q + 2 + S.R), .ref (Q + 3 + 2 * S.R), .int X.1, X.2.1, X.2.2.1, X.2.2.2.1, X.2.2.2.2]
def lgb (Q : Nat) (S : GS) (X : LX) (k : Nat) : z_C :=
  if k = 0 then .inr (10, lgf Q S X)
  else if k = 1 then lo .int S.R (fun i => Q + 2 + i)
  else if k < 2 + S.R then .inl (.int, S.C, .inl (arr S.C fun j => ce (S.c ((k - 2) * 5 + j))))
  else if k = 2 + S.R then lo .boolean S.R (fun i => Q + 3 + S.R + i)
  else if k < 3 + 2 * S.R then .inl (.boolean, S.C, .inl (arr S.C fun j => zb (S.gv ((k - 3 - S.R) * 5 + j))))
  else if k = 3 + 2 * S.R then lo (.array .boolean) S.R (fun i => Q + 4 + 2 * S.R + i * (1 + S.C))
  else if (k - (4 + 2 * S.R)) % (1 + S.C) = 0 then lo .boolean S.C (fun i => Q + k + 1 + i)
  else .inl (.boolean, S.C, .inl (arr S.C fun s => zb (S.b ((k - (4 + 2 * S.R)) / (1 + S.C) * 5 + ((k - (4 + 2 * S.R)) % (1 + S.C) - 1)) s)))
def NL (S : GS) : Nat := 4 + 2 * S.R + S.R * (1 + S.C)
def lgw (f : Nat → Option z_C) (Q : Nat) (S : GS) (X : LX) : Nat → Option z_C := ow f Q (NL S) (lgb Q S X)
theorem dm_a {r x M : Nat} (h : x < M) : (r * M + x) % M = x ∧ (r * M + x) / M = r := by
  have h0 : 0 < M := by omega
  constructor
  · rw [Nat.add_comm, Nat.add_mul_mod_self_right, Nat.mod_eq_of_lt h]
  · rw [Nat.add_comm, Nat.add_mul_div_right _ _ h0, Nat.div_eq_of_lt h, Nat.zero_add]
theorem NL_in {S : GS} {r x : Nat} (hr : r < S.R) (hx : x < 1 + S.C) : 4 + 2 * S.R + (r * (1 + S.C) + x) < NL S := by
  unfold NL
  have : (r + 1) * (1 + S.C) ≤ S.R * (1 + S.C) := Nat.mul_le_mul_right _ hr
  rw [Nat.add_mul] at this
  omega
section
variable {f : Nat → Option z_C} {Q : Nat} {S : GS} {X : LX}
theorem lgb_0 : lgb Q S X 0 = .inr (10, lgf Q S X) := if_pos rfl
theorem lgb_1 : lgb Q S X 1 = lo .int S.R (fun i => Q + 2 + i) := rfl
theorem lgb_c {r : Nat} (hr : r < S.R) : lgb Q S X (2 + r) = .inl (.int, S.C, .inl (arr S.C fun j => ce (S.c (r * 5 + j)))) := by
  unfold lgb
  rw [if_neg (by omega), if_neg (by omega), if_pos (by omega), show 2 + r - 2 = r by omega]
theorem lgb_2 : lgb Q S X (2 + S.R) = lo .boolean S.R (fun i => Q + 3 + S.R + i) := by
  unfold lgb
  rw [if_neg (by omega), if_neg (by omega), if_neg (by omega), if_pos rfl]
theorem lgb_g {r : Nat} (hr : r < S.R) : lgb Q S X (3 + S.R + r) = .inl (.boolean, S.C, .inl (arr S.C fun j => zb (S.gv (r * 5 + j)))) := by
  unfold lgb
  rw [if_neg (by omega), if_neg (by omega), if_neg (by omega), if_neg (by omega), if_pos (by omega), show 3 + S.R + r - 3 - S.R = r by omega]
theorem lgb_3 : lgb Q S X (3 + 2 * S.R) = lo (.array .boolean) S.R (fun i => Q + 4 + 2 * S.R + i * (1 + S.C)) := by
  unfold lgb
  rw [if_neg (by omega), if_neg (by omega), if_neg (by omega), if_neg (by omega), if_neg (by omega), if_pos rfl]
theorem lgb_s {r : Nat} : lgb Q S X (4 + 2 * S.R + r * (1 + S.C)) = lo .boolean S.C (fun i => Q + (4 + 2 * S.R + r * (1 + S.C)) + 1 + i) := by
  unfold lgb
  rw [if_neg (by omega), if_neg (by omega), if_neg (by omega), if_neg (by omega), if_neg (by omega), if_neg (by omega), if_pos]
  rw [show 4 + 2 * S.R + r * (1 + S.C) - (4 + 2 * S.R) = r * (1 + S.C) + 0 by omega]
  exact (dm_a (by omega)).1
theorem lgb_b {r j : Nat} (hj : j < S.C) : lgb Q S X (4 + 2 * S.R + (r * (1 + S.C) + (1 + j))) = .inl (.boolean, S.C, .inl (arr S.C fun s => zb (S.b (r * 5 + j) s))) := by
  have e : 4 + 2 * S.R + (r * (1 + S.C) + (1 + j)) - (4 + 2 * S.R) = r * (1 + S.C) + (1 + j) := by omega
  obtain ⟨d1, d2⟩ := dm_a (r := r) (x := 1 + j) (M := 1 + S.C) (by omega)
  unfold lgb
  rw [if_neg (by omega), if_neg (by omega), if_neg (by omega), if_neg (by omega), if_neg (by omega), if_neg (by omega), e, d1, d2, if_neg (by omega), show 1 + j - 1 = j by omega]
theorem lg_0 : lgw f Q S X Q = some (.inr (10, lgf Q S X)) := by
  have := ow_in f Q (NL S) (lgb Q S X) (k := 0) (by unfold NL; omega)
  exact this
theorem lg_1 : lgw f Q S X (Q + 1) = some (lo .int S.R (fun i => Q + 2 + i)) := ow_in f Q (NL S) (lgb Q S X) (k := 1) (by unfold NL; omega)
theorem lg_c {r : Nat} (hr : r < S.R) : lgw f Q S X (Q + 2 + r) = some (.inl (.int, S.C, .inl (arr S.C fun j => ce (S.c (r * 5 + j))))) := by
  have := ow_in f Q (NL S) (lgb Q S X) (k := 2 + r) (by unfold NL; omega)
  rw [lgb_c hr, ← Nat.add_assoc] at this
  exact this
theorem lg_2 : lgw f Q S X (Q + 2 + S.R) = some (lo .boolean S.R (fun i => Q + 3 + S.R + i)) := by
  have := ow_in f Q (NL S) (lgb Q S X) (k := 2 + S.R) (by unfold NL; omega)
  rw [lgb_2, ← Nat.add_assoc] at this
  exact this
theorem lg_g {r : Nat} (hr : r < S.R) : lgw f Q S X (Q + 3 + S.R + r) = some (.inl (.boolean, S.C, .inl (arr S.C fun j => zb (S.gv (r * 5 + j))))) := by
  have := ow_in f Q (NL S) (lgb Q S X) (k := 3 + S.R + r) (by unfold NL; omega)
  rw [lgb_g hr, ← Nat.add_assoc, ← Nat.add_assoc] at this
  exact this
theorem lg_3 : lgw f Q S X (Q + 3 + 2 * S.R) = some (lo (.array .boolean) S.R (fun i => Q + 4 + 2 * S.R + i * (1 + S.C))) := by
  have := ow_in f Q (NL S) (lgb Q S X) (k := 3 + 2 * S.R) (by unfold NL; omega)
  rw [lgb_3, ← Nat.add_assoc] at this
  exact this
theorem lg_s {r : Nat} (hr : r < S.R) : lgw f Q S X (Q + 4 + 2 * S.R + r * (1 + S.C)) = some (lo .boolean S.C (fun i => Q + (4 + 2 * S.R + r * (1 + S.C)) + 1 + i)) := by
  have := ow_in f Q (NL S) (lgb Q S X) (k := 4 + 2 * S.R + r * (1 + S.C)) (by have := NL_in (x := 0) hr (by omega); omega)
  rw [lgb_s, show Q + (4 + 2 * S.R + r * (1 + S.C)) = Q + 4 + 2 * S.R + r * (1 + S.C) by omega] at this
  rw [show Q + (4 + 2 * S.R + r * (1 + S.C)) = Q + 4 + 2 * S.R + r * (1 + S.C) by omega]
  exact this
theorem lg_b {r j : Nat} (hr : r < S.R) (hj : j < S.C) : lgw f Q S X (Q + (4 + 2 * S.R + r * (1 + S.C)) + 1 + j) = some (.inl (.boolean, S.C, .inl (arr S.C fun s => zb (S.b (r * 5 + j) s)))) := by
  have := ow_in f Q (NL S) (lgb Q S X) (k := 4 + 2 * S.R + (r * (1 + S.C) + (1 + j))) (NL_in hr (by omega))
  rw [lgb_b hj, show Q + (4 + 2 * S.R + (r * (1 + S.C) + (1 + j))) = Q + (4 + 2 * S.R + r * (1 + S.C)) + 1 + j by omega] at this
  exact this
theorem lg_o {x : Nat} (h : x < Q ∨ Q + NL S ≤ x) : lgw f Q S X x = f x := ow_out h
end
section
variable (f : Nat → Option z_C) (Q : Nat) (S : GS) (X : LX) (q : Option Nat × Nat × Nat)
theorem lG_R (K : Int32 → Prop) : z_gI (lgw f Q S X, q).1 Q 10 0 K = K (nI S.R) := by simp only [z_gI, lg_0, lgf, List.getElem?_cons_succ, List.getElem?_cons_zero, true_and]
theorem lG_C (K : Int32 → Prop) : z_gI (lgw f Q S X, q).1 Q 10 1 K = K (nI S.C) := by simp only [z_gI, lg_0, lgf, List.getElem?_cons_succ, List.getElem?_cons_zero, true_and]
theorem lG_N (K : Int32 → Prop) : z_gI (lgw f Q S X, q).1 Q 10 2 K = K (nI S.N) := by simp only [z_gI, lg_0, lgf, List.getElem?_cons_succ, List.getElem?_cons_zero, true_and]
theorem lG_G (K : Int32 → Prop) : z_gI (lgw f Q S X, q).1 Q 10 3 K = K (nI S.G) := by simp only [z_gI, lg_0, lgf, List.getElem?_cons_succ, List.getElem?_cons_zero, true_and]
theorem lG_n (K : Int32 → Prop) : z_gI (lgw f Q S X, q).1 Q 10 7 K = K X.1 := by simp only [z_gI, lg_0, lgf, List.getElem?_cons_succ, List.getElem?_cons_zero, true_and]
theorem lG_4 (K : Value → Prop) : z_gR (lgw f Q S X, q).1 Q 10 4 K = K (.ref (Q + 1)) := by simp only [z_gR, lg_0, lgf, List.getElem?_cons_succ, List.getElem?_cons_zero, true_and]
theorem lG_5 (K : Value → Prop) : z_gR (lgw f Q S X, q).1 Q 10 5 K = K (.ref (Q + 2 + S.R)) := by simp only [z_gR, lg_0, lgf, List.getElem?_cons_succ, List.getElem?_cons_zero, true_and]
theorem lG_6 (K : Value → Prop) : z_gR (lgw f Q S X, q).1 Q 10 6 K = K (.ref (Q + 3 + 2 * S.R)) := by simp only [z_gR, lg_0, lgf, List.getElem?_cons_succ, List.getElem?_cons_zero, true_and]
theorem gR_v {v : Value} (h : z_isA v = true) {fs : List Value} {k : Nat} (hk : fs[k]? = some v) (K : Value → Prop) : (match fs[k]? with | some (.ref x) => K (.ref x) | some .null => K .null | _ => False) = K v := by
  rw [hk]
  cases v <;> first | rfl | cases h
theorem lG_8 (h : z_isA X.2.1 = true) (K : Value → Prop) : z_gR (lgw f Q S X, q).1 Q 10 8 K = K X.2.1 := by
  simp only [z_gR, lg_0, true_and]
  exact gR_v h rfl K
theorem lG_9 (h : z_isA X.2.2.1 = true) (K : Value → Prop) : z_gR (lgw f Q S X, q).1 Q 10 9 K = K X.2.2.1 := by
  simp only [z_gR, lg_0, true_and]
  exact gR_v h rfl K
theorem lG_10 (h : z_isA X.2.2.2.1 = true) (K : Value → Prop) : z_gR (lgw f Q S X, q).1 Q 10 10 K = K X.2.2.2.1 := by
  simp only [z_gR, lg_0, true_and]
  exact gR_v h rfl K
theorem lG_11 (h : z_isA X.2.2.2.2 = true) (K : Value → Prop) : z_gR (lgw f Q S X, q).1 Q 10 11 K = K X.2.2.2.2 := by
  simp only [z_gR, lg_0, true_and]
  exact gR_v h rfl K
theorem lG_o : z_gO (lgw f Q S X) Q 10 := by simp only [z_gO, lg_0]
variable {r j : Nat}
theorem lG_q1 (hr : r < S.R) (hR : S.R ≤ 5) (K : Nat → Prop) : z_qL (lgw f Q S X, q).1 (Q + 1) (nI r) K = K (Q + 2 + r) := by simp (disch := omega) only [z_qL, lg_1, lo, z_tQ, true_and, cI_ix, cI_cl, hr, if_true]
theorem lG_q2 (hr : r < S.R) (hR : S.R ≤ 5) (K : Nat → Prop) : z_qL (lgw f Q S X, q).1 (Q + 2 + S.R) (nI r) K = K (Q + 3 + S.R + r) := by simp (disch := omega) only [z_qL, lg_2, lo, z_tQ, true_and, cI_ix, cI_cl, hr, if_true]
theorem lG_q3 (hr : r < S.R) (hR : S.R ≤ 5) (K : Nat → Prop) : z_qL (lgw f Q S X, q).1 (Q + 3 + 2 * S.R) (nI r) K = K (Q + 4 + 2 * S.R + r * (1 + S.C)) := by simp (disch := omega) only [z_qL, lg_3, lo, z_tQ, true_and, cI_ix, cI_cl, hr, if_true]
theorem lG_q4 (hr : r < S.R) (hj : j < S.C) (hC : S.C ≤ 5) (K : Nat → Prop) : z_qL (lgw f Q S X, q).1 (Q + 4 + 2 * S.R + r * (1 + S.C)) (nI j) K = K (Q + (4 + 2 * S.R + r * (1 + S.C)) + 1 + j) := by simp (disch := omega) only [z_qL, lg_s hr, lo, z_tQ, true_and, cI_ix, cI_cl, hj, if_true]
theorem lG_a1 (hr : r < S.R) (hj : j < S.C) (hC : S.C ≤ 5) (K : Int32 → Prop) : z_aL (lgw f Q S X, q).1 (Q + 2 + r) z_tI (nI j) K = K (ce (S.c (r * 5 + j))) := by simp (disch := omega) only [z_aL, lg_c hr, z_tI, true_and, cI_ix, cI_cl, arr_at]
theorem lG_a2 (hr : r < S.R) (hj : j < S.C) (hC : S.C ≤ 5) (K : Int32 → Prop) : z_aL (lgw f Q S X, q).1 (Q + 3 + S.R + r) z_tB (nI j) K = K (zb (S.gv (r * 5 + j))) := by simp (disch := omega) only [z_aL, lg_g hr, z_tB, true_and, cI_ix, cI_cl, arr_at]
theorem lG_a4 {s : Nat} (hr : r < S.R) (hj : j < S.C) (hs : s < S.C) (hC : S.C ≤ 5) (K : Int32 → Prop) : z_aL (lgw f Q S X, q).1 (Q + (4 + 2 * S.R + r * (1 + S.C)) + 1 + j) z_tB (nI s) K = K (zb (S.b (r * 5 + j) s)) := by simp (disch := omega) only [z_aL, lg_b hr hj, z_tB, true_and, cI_ix, cI_cl, arr_at]
/-- a cell of the block is written -/
theorem lg_w {f : Nat → Option z_C} {Q : Nat} {S S' : GS} {X X' : LX} {k : Nat} {c : z_C} (hk : k < NL S) (hN : NL S' = NL S) (h1 : lgb Q S' X' k = c) (h2 : ∀ i, i < NL S → i ≠ k → lgb Q S' X' i = lgb Q S X i) : z_up (lgw f Q S X) (Q + k) c = lgw f Q S' X' := by
  unfold lgw
  rw [ow_up _ hk, hN]
  refine ow_congr fun i hi => ?_
  by_cases e : i = k
  · rw [if_pos e, e, h1]
  · rw [if_neg e, h2 i hi e]
theorem lg_cellw {c' : Nat → Nat} (hr : r < S.R) (hc : ∀ i x, i < S.R → i ≠ r → x < S.C → c' (i * 5 + x) = S.c (i * 5 + x)) : z_up (lgw f Q S X) (Q + 2 + r) (.inl (.int, S.C, .inl (arr S.C fun x => ce (c' (r * 5 + x))))) = lgw f Q (S.sc c') X := by
  rw [Nat.add_assoc]
  refine lg_w (by unfold NL; omega) rfl ?_ (fun i hi hn => ?_)
  · exact lgb_c (S := S.sc c') hr
  · unfold lgb
    by_cases a : i = 0
    · rw [if_pos a, if_pos a]; rfl
    · rw [if_neg a, if_neg a]
      by_cases b : i = 1
      · rw [if_pos b, if_pos b]; rfl
      · rw [if_neg b, if_neg b]
        by_cases c : i < 2 + S.R
        · rw [if_pos (show i < 2 + (S.sc c').R from c), if_pos c]
          show (Sum.inl (FieldType.int, S.C, Sum.inl (arr S.C fun j => ce (c' ((i - 2) * 5 + j)))) : z_C) = _
          rw [arr_congr fun x hx => by rw [hc (i - 2) x (by omega) (by omega) hx]]
        · rw [if_neg (show ¬ i < 2 + (S.sc c').R from c), if_neg c]; rfl
theorem lG_put {s : Nat} (hr : r < S.R) (hj : j < S.C) (hC : S.C ≤ 5) (hs : s < 5) (K : (Nat → Option z_C) → Prop) : z_aS (lgw f Q S X, q).1 (Q + 2 + r) z_tI (nI j) (nI s) K = K (lgw f Q (S.put r j s) X) := by
  have e := lg_cellw f Q S X (r := r) (c' := nu S.c (r * 5 + j) s) hr (fun i x hi hn hx => nu_n (by omega))
  simp (disch := omega) only [z_aS, lg_c hr, z_tI, true_and, cI_ix, cI_cl, arr_upd]
  rw [show S.put r j s = S.sc (nu S.c (r * 5 + j) s) from rfl, ← e]
  have e2 : upd (fun x => ce (S.c (r * 5 + x))) j (nI s) = fun x => ce (nu S.c (r * 5 + j) s (r * 5 + x)) := by
    refine upd_fn (by rw [nu_s, ce_lt hs]) (fun x hx => by rw [nu_n (by omega)])
  rw [e2]
theorem lG_take (hr : r < S.R) (hj : j < S.C) (hC : S.C ≤ 5) (K : (Nat → Option z_C) → Prop) : z_aS (lgw f Q S X, q).1 (Q + 2 + r) z_tI (nI j) (-1) K = K (lgw f Q (S.take r j) X) := by
  have e := lg_cellw f Q S X (r := r) (c' := nu S.c (r * 5 + j) 5) hr (fun i x hi hn hx => nu_n (by omega))
  simp (disch := omega) only [z_aS, lg_c hr, z_tI, true_and, cI_ix, cI_cl, arr_upd]
  rw [show S.take r j = S.sc (nu S.c (r * 5 + j) 5) from rfl, ← e]
  have e2 : upd (fun x => ce (S.c (r * 5 + x))) j (-1) = fun x => ce (nu S.c (r * 5 + j) 5 (r * 5 + x)) := by
    refine upd_fn (by rw [nu_s, ce_5]) (fun x hx => by rw [nu_n (by omega)])
  rw [e2]
/-- any value that is a cell's is written -/
theorem lG_set {s : Nat} (hr : r < S.R) (hj : j < S.C) (hC : S.C ≤ 5) (K : (Nat → Option z_C) → Prop) : z_aS (lgw f Q S X, q).1 (Q + 2 + r) z_tI (nI j) (ce s) K = K (lgw f Q (S.sc (nu S.c (r * 5 + j) s)) X) := by
  have e := lg_cellw f Q S X (r := r) (c' := nu S.c (r * 5 + j) s) hr (fun i x hi hn hx => nu_n (by omega))
  simp (disch := omega) only [z_aS, lg_c hr, z_tI, true_and, cI_ix, cI_cl, arr_upd]
  rw [← e]
  have e2 : upd (fun x => ce (S.c (r * 5 + x))) j (ce s) = fun x => ce (nu S.c (r * 5 + j) s (r * 5 + x)) := by
    refine upd_fn (by rw [nu_s]) (fun x hx => by rw [nu_n (by omega)])
  rw [e2]
/-- a field of the Grid is written -/
theorem lg_fw {S' : GS} {X' : LX} (hR : S'.R = S.R) (hC : S'.C = S.C) (hc : S'.c = S.c) (hv : S'.gv = S.gv) (hb : S'.b = S.b) : z_up (lgw f Q S X) Q (.inr (10, lgf Q S' X')) = lgw f Q S' X' := by
  refine lg_w (k := 0) (by unfold NL; omega) (by unfold NL; rw [hR, hC]) lgb_0 (fun i hi hn => ?_)
  unfold lgb
  rw [if_neg hn, if_neg hn, hR, hC, hc, hv, hb]
theorem lG_pn (x : Int32) (K : (Nat → Option z_C) → Prop) : z_pF (lgw f Q S X, q).1 Q 10 7 (.int x) K = K (lgw f Q S (x, X.2)) := by
  simp only [z_pF, lg_0, true_and]
  rw [← lg_fw f Q S X (S' := S) (X' := (x, X.2)) rfl rfl rfl rfl rfl]
  exact propext ⟨fun z => z.2, fun z => ⟨(by simp [lgf]), z⟩⟩
theorem lG_p8 (x : Value) (K : (Nat → Option z_C) → Prop) : z_pF (lgw f Q S X, q).1 Q 10 8 x K = K (lgw f Q S (X.1, x, X.2.2)) := by
  simp only [z_pF, lg_0, true_and]
  rw [← lg_fw f Q S X (S' := S) (X' := (X.1, x, X.2.2)) rfl rfl rfl rfl rfl]
  exact propext ⟨fun z => z.2, fun z => ⟨(by simp [lgf]), z⟩⟩
theorem lG_p9 (x : Value) (K : (Nat → Option z_C) → Prop) : z_pF (lgw f Q S X, q).1 Q 10 9 x K = K (lgw f Q S (X.1, X.2.1, x, X.2.2.2)) := by
  simp only [z_pF, lg_0, true_and]
  rw [← lg_fw f Q S X (S' := S) (X' := (X.1, X.2.1, x, X.2.2.2)) rfl rfl rfl rfl rfl]
  exact propext ⟨fun z => z.2, fun z => ⟨(by simp [lgf]), z⟩⟩
theorem lG_p10 (x : Value) (K : (Nat → Option z_C) → Prop) : z_pF (lgw f Q S X, q).1 Q 10 10 x K = K (lgw f Q S (X.1, X.2.1, X.2.2.1, x, X.2.2.2.2)) := by
  simp only [z_pF, lg_0, true_and]
  rw [← lg_fw f Q S X (S' := S) (X' := (X.1, X.2.1, X.2.2.1, x, X.2.2.2.2)) rfl rfl rfl rfl rfl]
  exact propext ⟨fun z => z.2, fun z => ⟨(by simp [lgf]), z⟩⟩
theorem lG_p11 (x : Value) (K : (Nat → Option z_C) → Prop) : z_pF (lgw f Q S X, q).1 Q 10 11 x K = K (lgw f Q S (X.1, X.2.1, X.2.2.1, X.2.2.2.1, x)) := by
  simp only [z_pF, lg_0, true_and]
  rw [← lg_fw f Q S X (S' := S) (X' := (X.1, X.2.1, X.2.2.1, X.2.2.2.1, x)) rfl rfl rfl rfl rfl]
  exact propext ⟨fun z => z.2, fun z => ⟨(by simp [lgf]), z⟩⟩
theorem lH_R (K : Int32 → Prop) : z_gI (lgw f Q S X) Q 10 0 K = K (nI S.R) := lG_R f Q S X (none, 0, 0) K
theorem lH_C (K : Int32 → Prop) : z_gI (lgw f Q S X) Q 10 1 K = K (nI S.C) := lG_C f Q S X (none, 0, 0) K
theorem lH_N (K : Int32 → Prop) : z_gI (lgw f Q S X) Q 10 2 K = K (nI S.N) := lG_N f Q S X (none, 0, 0) K
theorem lH_G (K : Int32 → Prop) : z_gI (lgw f Q S X) Q 10 3 K = K (nI S.G) := lG_G f Q S X (none, 0, 0) K
theorem lH_n (K : Int32 → Prop) : z_gI (lgw f Q S X) Q 10 7 K = K X.1 := lG_n f Q S X (none, 0, 0) K
theorem lH_4 (K : Value → Prop) : z_gR (lgw f Q S X) Q 10 4 K = K (.ref (Q + 1)) := lG_4 f Q S X (none, 0, 0) K
theorem lH_5 (K : Value → Prop) : z_gR (lgw f Q S X) Q 10 5 K = K (.ref (Q + 2 + S.R)) := lG_5 f Q S X (none, 0, 0) K
theorem lH_6 (K : Value → Prop) : z_gR (lgw f Q S X) Q 10 6 K = K (.ref (Q + 3 + 2 * S.R)) := lG_6 f Q S X (none, 0, 0) K
theorem lH_q1 (hr : r < S.R) (hR : S.R ≤ 5) (K : Nat → Prop) : z_qL (lgw f Q S X) (Q + 1) (nI r) K = K (Q + 2 + r) := lG_q1 f Q S X (none, 0, 0) hr hR K
theorem lH_q2 (hr : r < S.R) (hR : S.R ≤ 5) (K : Nat → Prop) : z_qL (lgw f Q S X) (Q + 2 + S.R) (nI r) K = K (Q + 3 + S.R + r) := lG_q2 f Q S X (none, 0, 0) hr hR K
theorem lH_q3 (hr : r < S.R) (hR : S.R ≤ 5) (K : Nat → Prop) : z_qL (lgw f Q S X) (Q + 3 + 2 * S.R) (nI r) K = K (Q + 4 + 2 * S.R + r * (1 + S.C)) := lG_q3 f Q S X (none, 0, 0) hr hR K
theorem lH_q4 (hr : r < S.R) (hj : j < S.C) (hC : S.C ≤ 5) (K : Nat → Prop) : z_qL (lgw f Q S X) (Q + 4 + 2 * S.R + r * (1 + S.C)) (nI j) K = K (Q + (4 + 2 * S.R + r * (1 + S.C)) + 1 + j) := lG_q4 f Q S X (none, 0, 0) hr hj hC K
theorem lH_a1 (hr : r < S.R) (hj : j < S.C) (hC : S.C ≤ 5) (K : Int32 → Prop) : z_aL (lgw f Q S X) (Q + 2 + r) z_tI (nI j) K = K (ce (S.c (r * 5 + j))) := lG_a1 f Q S X (none, 0, 0) hr hj hC K
theorem lH_a2 (hr : r < S.R) (hj : j < S.C) (hC : S.C ≤ 5) (K : Int32 → Prop) : z_aL (lgw f Q S X) (Q + 3 + S.R + r) z_tB (nI j) K = K (zb (S.gv (r * 5 + j))) := lG_a2 f Q S X (none, 0, 0) hr hj hC K
theorem lH_a4 {s : Nat} (hr : r < S.R) (hj : j < S.C) (hs : s < S.C) (hC : S.C ≤ 5) (K : Int32 → Prop) : z_aL (lgw f Q S X) (Q + (4 + 2 * S.R + r * (1 + S.C)) + 1 + j) z_tB (nI s) K = K (zb (S.b (r * 5 + j) s)) := lG_a4 f Q S X (none, 0, 0) hr hj hs hC K
theorem lH_put {s : Nat} (hr : r < S.R) (hj : j < S.C) (hC : S.C ≤ 5) (hs : s < 5) (K : (Nat → Option z_C) → Prop) : z_aS (lgw f Q S X) (Q + 2 + r) z_tI (nI j) (nI s) K = K (lgw f Q (S.put r j s) X) := lG_put f Q S X (none, 0, 0) hr hj hC hs K
theorem lH_take (hr : r < S.R) (hj : j < S.C) (hC : S.C ≤ 5) (K : (Nat → Option z_C) → Prop) : z_aS (lgw f Q S X) (Q + 2 + r) z_tI (nI j) (-1) K = K (lgw f Q (S.take r j) X) := lG_take f Q S X (none, 0, 0) hr hj hC K
theorem lH_set {s : Nat} (hr : r < S.R) (hj : j < S.C) (hC : S.C ≤ 5) (K : (Nat → Option z_C) → Prop) : z_aS (lgw f Q S X) (Q + 2 + r) z_tI (nI j) (ce s) K = K (lgw f Q (S.sc (nu S.c (r * 5 + j) s)) X) := lG_set f Q S X (none, 0, 0) hr hj hC K
theorem lH_pn (x : Int32) (K : (Nat → Option z_C) → Prop) : z_pF (lgw f Q S X) Q 10 7 (.int x) K = K (lgw f Q S (x, X.2)) := lG_pn f Q S X (none, 0, 0) x K
theorem lH_p8 (x : Value) (K : (Nat → Option z_C) → Prop) : z_pF (lgw f Q S X) Q 10 8 x K = K (lgw f Q S (X.1, x, X.2.2)) := lG_p8 f Q S X (none, 0, 0) x K
theorem lH_p9 (x : Value) (K : (Nat → Option z_C) → Prop) : z_pF (lgw f Q S X) Q 10 9 x K = K (lgw f Q S (X.1, X.2.1, x, X.2.2.2)) := lG_p9 f Q S X (none, 0, 0) x K
theorem lH_p10 (x : Value) (K : (Nat → Option z_C) → Prop) : z_pF (lgw f Q S X) Q 10 10 x K = K (lgw f Q S (X.1, X.2.1, X.2.2.1, x, X.2.2.2.2)) := lG_p10 f Q S X (none, 0, 0) x K
theorem lH_p11 (x : Value) (K : (Nat → Option z_C) → Prop) : z_pF (lgw f Q S X) Q 10 11 x K = K (lgw f Q S (X.1, X.2.1, X.2.2.1, X.2.2.2.1, x)) := lG_p11 f Q S X (none, 0, 0) x K
end
