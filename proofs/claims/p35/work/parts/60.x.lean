/-! the class: 47 cells from B on, ints I, arrays A and grids G by their numbers -/
def xb (B : Nat) (G : Nat → GS) (I : Nat → Int32) (A : Nat → Nat → Int32) : Nat → z_C
  | 0 => .inr (9, [.ref (B + 1), .ref (B + 7), .ref (B + 9), .ref (B + 16), .ref (B + 17), .ref (B + 25), .ref (B + 27), .ref (B + 29), .ref (B + 41), .ref (B + 46), .int (I 14)])
  | 1 => gb (B + 1) (G 1).w 0
  | 2 => gb (B + 1) (G 1).w 1
  | 3 => gb (B + 1) (G 1).w 2
  | 4 => gb (B + 1) (G 1).w 3
  | 5 => gb (B + 1) (G 1).w 4
  | 6 => gb (B + 1) (G 1).w 5
  | 7 => .inr (7, [.ref (B + 8), .int (I 0), .int (I 1), .int (I 2), .int (I 3), .int (I 4), .int (I 5)])
  | 8 => .inl (.byte, 500, .inl (arr 500 (A 8)))
  | 9 => .inr (5, [.ref (B + 7), .ref (B + 10), .int (I 6), .int (I 7)])
  | 10 => gb (B + 10) (G 10).w 0
  | 11 => gb (B + 10) (G 10).w 1
  | 12 => gb (B + 10) (G 10).w 2
  | 13 => gb (B + 10) (G 10).w 3
  | 14 => gb (B + 10) (G 10).w 4
  | 15 => gb (B + 10) (G 10).w 5
  | 16 => .inr (2, [.ref (B + 1)])
  | 17 => .inr (0, [.ref (B + 1), .ref (B + 18), .ref (B + 24), .int (I 8)])
  | 18 => gb (B + 18) (G 18).w 0
  | 19 => gb (B + 18) (G 18).w 1
  | 20 => gb (B + 18) (G 18).w 2
  | 21 => gb (B + 18) (G 18).w 3
  | 22 => gb (B + 18) (G 18).w 4
  | 23 => gb (B + 18) (G 18).w 5
  | 24 => .inl (.int, 25, .inl (arr 25 (A 24)))
  | 25 => .inr (8, [.ref (B + 1), .ref (B + 26), .int (I 9), .int (I 10)])
  | 26 => .inl (.int, 5, .inl (arr 5 (A 26)))
  | 27 => .inr (1, [.ref (B + 1), .ref (B + 28), .int (I 11)])
  | 28 => .inl (.int, 20, .inl (arr 20 (A 28)))
  | 29 => .inr (4, [.ref (B + 30), .int (I 12), .int (I 13)])
  | 30 => .inl (.array .int, 10, .inr (.inr (.inr (.inr fun i => if i < 10 then some (B + 31 + i) else none))))
  | 31 => .inl (.int, 25, .inl (arr 25 (A 31)))
  | 32 => .inl (.int, 25, .inl (arr 25 (A 32)))
  | 33 => .inl (.int, 25, .inl (arr 25 (A 33)))
  | 34 => .inl (.int, 25, .inl (arr 25 (A 34)))
  | 35 => .inl (.int, 25, .inl (arr 25 (A 35)))
  | 36 => .inl (.int, 25, .inl (arr 25 (A 36)))
  | 37 => .inl (.int, 25, .inl (arr 25 (A 37)))
  | 38 => .inl (.int, 25, .inl (arr 25 (A 38)))
  | 39 => .inl (.int, 25, .inl (arr 25 (A 39)))
  | 40 => .inl (.int, 25, .inl (arr 25 (A 40)))
  | 41 => .inr (6, [.ref (B + 42), .ref (B + 45)])
  | 42 => .inl (.array .int, 2, .inr (.inr (.inr (.inr fun i => if i < 2 then some (B + 43 + i) else none))))
  | 43 => .inl (.int, 25, .inl (arr 25 (A 43)))
  | 44 => .inl (.int, 25, .inl (arr 25 (A 44)))
  | 45 => .inl (.boolean, 2, .inl (arr 2 (A 45)))
  | _ => .inl (.int, 5, .inl (arr 5 (A 46)))
def xw (f : Nat → Option z_C) (B : Nat) (G : Nat → GS) (I : Nat → Int32) (A : Nat → Nat → Int32) : Nat → Option z_C := ow f B 47 (xb B G I A)
def uG (G : Nat → GS) (i : Nat) (S : GS) : Nat → GS := fun j => if j = i then S else G j
theorem uG_s (G : Nat → GS) (i : Nat) (S : GS) : uG G i S i = S := if_pos rfl
theorem uG_n {G : Nat → GS} {i j : Nat} (S : GS) (h : j ≠ i) : uG G i S j = G j := if_neg h
theorem uG_uG (G : Nat → GS) (i : Nat) (S S' : GS) : uG (uG G i S) i S' = uG G i S' := by
  funext j; unfold uG; split <;> rfl
theorem uA_uA (A : Nat → Nat → Int32) (i : Nat) (F F' : Nat → Int32) : uA (uA A i F) i F' = uA A i F' := by
  funext j; unfold uA; split <;> rfl
theorem uG_id (G : Nat → GS) (i : Nat) : uG G i (G i) = G := by
  funext j; unfold uG; split
  · next e => rw [e]
  · rfl
theorem uA_id (A : Nat → Nat → Int32) (i : Nat) : uA A i (A i) = A := by
  funext j; unfold uA; split
  · next e => rw [e]
  · rfl
theorem al47 {p : Nat → Prop} (h0 : p 0) (h1 : p 1) (h2 : p 2) (h3 : p 3) (h4 : p 4) (h5 : p 5) (h6 : p 6) (h7 : p 7) (h8 : p 8) (h9 : p 9) (h10 : p 10) (h11 : p 11) (h12 : p 12) (h13 : p 13) (h14 : p 14) (h15 : p 15) (h16 : p 16) (h17 : p 17) (h18 : p 18) (h19 : p 19) (h20 : p 20) (h21 : p 21) (h22 : p 22) (h23 : p 23) (h24 : p 24) (h25 : p 25) (h26 : p 26) (h27 : p 27) (h28 : p 28) (h29 : p 29) (h30 : p 30) (h31 : p 31) (h32 : p 32) (h33 : p 33) (h34 : p 34) (h35 : p 35) (h36 : p 36) (h37 : p 37) (h38 : p 38) (h39 : p 39) (h40 : p 40) (h41 : p 41) (h42 : p 42) (h43 : p 43) (h44 : p 44) (h45 : p 45) (h46 : p 46) : ∀ k, k < 47 → p k := by
  intro k hk
  rcases (show k = 0 ∨ k = 1 ∨ k = 2 ∨ k = 3 ∨ k = 4 ∨ k = 5 ∨ k = 6 ∨ k = 7 ∨ k = 8 ∨ k = 9 ∨ k = 10 ∨ k = 11 ∨ k = 12 ∨ k = 13 ∨ k = 14 ∨ k = 15 ∨ k = 16 ∨ k = 17 ∨ k = 18 ∨ k = 19 ∨ k = 20 ∨ k = 21 ∨ k = 22 ∨ k = 23 ∨ k = 24 ∨ k = 25 ∨ k = 26 ∨ k = 27 ∨ k = 28 ∨ k = 29 ∨ k = 30 ∨ k = 31 ∨ k = 32 ∨ k = 33 ∨ k = 34 ∨ k = 35 ∨ k = 36 ∨ k = 37 ∨ k = 38 ∨ k = 39 ∨ k = 40 ∨ k = 41 ∨ k = 42 ∨ k = 43 ∨ k = 44 ∨ k = 45 ∨ k = 46 by omega) with rfl | rfl | rfl | rfl | rfl | rfl | rfl | rfl | rfl | rfl | rfl | rfl | rfl | rfl | rfl | rfl | rfl | rfl | rfl | rfl | rfl | rfl | rfl | rfl | rfl | rfl | rfl | rfl | rfl | rfl | rfl | rfl | rfl | rfl | rfl | rfl | rfl | rfl | rfl | rfl | rfl | rfl | rfl | rfl | rfl | rfl | rfl
  · exact h0
  · exact h1
  · exact h2
  · exact h3
  · exact h4
  · exact h5
  · exact h6
  · exact h7
  · exact h8
  · exact h9
  · exact h10
  · exact h11
  · exact h12
  · exact h13
  · exact h14
  · exact h15
  · exact h16
  · exact h17
  · exact h18
  · exact h19
  · exact h20
  · exact h21
  · exact h22
  · exact h23
  · exact h24
  · exact h25
  · exact h26
  · exact h27
  · exact h28
  · exact h29
  · exact h30
  · exact h31
  · exact h32
  · exact h33
  · exact h34
  · exact h35
  · exact h36
  · exact h37
  · exact h38
  · exact h39
  · exact h40
  · exact h41
  · exact h42
  · exact h43
  · exact h44
  · exact h45
  · exact h46
section
variable (f : Nat → Option z_C) (B : Nat) (G : Nat → GS) (I : Nat → Int32) (A : Nat → Nat → Int32)
theorem xw_0 : xw f B G I A B = some (.inr (9, [.ref (B + 1), .ref (B + 7), .ref (B + 9), .ref (B + 16), .ref (B + 17), .ref (B + 25), .ref (B + 27), .ref (B + 29), .ref (B + 41), .ref (B + 46), .int (I 14)])) := ow_in f B 47 (xb B G I A) (k := 0) (by omega)
theorem xw_1 : xw f B G I A (B + 1) = some (gb (B + 1) (G 1).w 0) := ow_in f B 47 (xb B G I A) (k := 1) (by omega)
theorem xw_2 : xw f B G I A (B + 2) = some (gb (B + 1) (G 1).w 1) := ow_in f B 47 (xb B G I A) (k := 2) (by omega)
theorem xw_3 : xw f B G I A (B + 3) = some (gb (B + 1) (G 1).w 2) := ow_in f B 47 (xb B G I A) (k := 3) (by omega)
theorem xw_4 : xw f B G I A (B + 4) = some (gb (B + 1) (G 1).w 3) := ow_in f B 47 (xb B G I A) (k := 4) (by omega)
theorem xw_5 : xw f B G I A (B + 5) = some (gb (B + 1) (G 1).w 4) := ow_in f B 47 (xb B G I A) (k := 5) (by omega)
theorem xw_6 : xw f B G I A (B + 6) = some (gb (B + 1) (G 1).w 5) := ow_in f B 47 (xb B G I A) (k := 6) (by omega)
theorem xw_7 : xw f B G I A (B + 7) = some (.inr (7, [.ref (B + 8), .int (I 0), .int (I 1), .int (I 2), .int (I 3), .int (I 4), .int (I 5)])) := ow_in f B 47 (xb B G I A) (k := 7) (by omega)
theorem xw_8 : xw f B G I A (B + 8) = some (.inl (.byte, 500, .inl (arr 500 (A 8)))) := ow_in f B 47 (xb B G I A) (k := 8) (by omega)
theorem xw_9 : xw f B G I A (B + 9) = some (.inr (5, [.ref (B + 7), .ref (B + 10), .int (I 6), .int (I 7)])) := ow_in f B 47 (xb B G I A) (k := 9) (by omega)
theorem xw_10 : xw f B G I A (B + 10) = some (gb (B + 10) (G 10).w 0) := ow_in f B 47 (xb B G I A) (k := 10) (by omega)
theorem xw_11 : xw f B G I A (B + 11) = some (gb (B + 10) (G 10).w 1) := ow_in f B 47 (xb B G I A) (k := 11) (by omega)
theorem xw_12 : xw f B G I A (B + 12) = some (gb (B + 10) (G 10).w 2) := ow_in f B 47 (xb B G I A) (k := 12) (by omega)
theorem xw_13 : xw f B G I A (B + 13) = some (gb (B + 10) (G 10).w 3) := ow_in f B 47 (xb B G I A) (k := 13) (by omega)
theorem xw_14 : xw f B G I A (B + 14) = some (gb (B + 10) (G 10).w 4) := ow_in f B 47 (xb B G I A) (k := 14) (by omega)
theorem xw_15 : xw f B G I A (B + 15) = some (gb (B + 10) (G 10).w 5) := ow_in f B 47 (xb B G I A) (k := 15) (by omega)
theorem xw_16 : xw f B G I A (B + 16) = some (.inr (2, [.ref (B + 1)])) := ow_in f B 47 (xb B G I A) (k := 16) (by omega)
theorem xw_17 : xw f B G I A (B + 17) = some (.inr (0, [.ref (B + 1), .ref (B + 18), .ref (B + 24), .int (I 8)])) := ow_in f B 47 (xb B G I A) (k := 17) (by omega)
theorem xw_18 : xw f B G I A (B + 18) = some (gb (B + 18) (G 18).w 0) := ow_in f B 47 (xb B G I A) (k := 18) (by omega)
theorem xw_19 : xw f B G I A (B + 19) = some (gb (B + 18) (G 18).w 1) := ow_in f B 47 (xb B G I A) (k := 19) (by omega)
theorem xw_20 : xw f B G I A (B + 20) = some (gb (B + 18) (G 18).w 2) := ow_in f B 47 (xb B G I A) (k := 20) (by omega)
theorem xw_21 : xw f B G I A (B + 21) = some (gb (B + 18) (G 18).w 3) := ow_in f B 47 (xb B G I A) (k := 21) (by omega)
theorem xw_22 : xw f B G I A (B + 22) = some (gb (B + 18) (G 18).w 4) := ow_in f B 47 (xb B G I A) (k := 22) (by omega)
theorem xw_23 : xw f B G I A (B + 23) = some (gb (B + 18) (G 18).w 5) := ow_in f B 47 (xb B G I A) (k := 23) (by omega)
theorem xw_24 : xw f B G I A (B + 24) = some (.inl (.int, 25, .inl (arr 25 (A 24)))) := ow_in f B 47 (xb B G I A) (k := 24) (by omega)
theorem xw_25 : xw f B G I A (B + 25) = some (.inr (8, [.ref (B + 1), .ref (B + 26), .int (I 9), .int (I 10)])) := ow_in f B 47 (xb B G I A) (k := 25) (by omega)
theorem xw_26 : xw f B G I A (B + 26) = some (.inl (.int, 5, .inl (arr 5 (A 26)))) := ow_in f B 47 (xb B G I A) (k := 26) (by omega)
theorem xw_27 : xw f B G I A (B + 27) = some (.inr (1, [.ref (B + 1), .ref (B + 28), .int (I 11)])) := ow_in f B 47 (xb B G I A) (k := 27) (by omega)
theorem xw_28 : xw f B G I A (B + 28) = some (.inl (.int, 20, .inl (arr 20 (A 28)))) := ow_in f B 47 (xb B G I A) (k := 28) (by omega)
theorem xw_29 : xw f B G I A (B + 29) = some (.inr (4, [.ref (B + 30), .int (I 12), .int (I 13)])) := ow_in f B 47 (xb B G I A) (k := 29) (by omega)
theorem xw_30 : xw f B G I A (B + 30) = some (.inl (.array .int, 10, .inr (.inr (.inr (.inr fun i => if i < 10 then some (B + 31 + i) else none))))) := ow_in f B 47 (xb B G I A) (k := 30) (by omega)
theorem xw_31 : xw f B G I A (B + 31) = some (.inl (.int, 25, .inl (arr 25 (A 31)))) := ow_in f B 47 (xb B G I A) (k := 31) (by omega)
theorem xw_32 : xw f B G I A (B + 32) = some (.inl (.int, 25, .inl (arr 25 (A 32)))) := ow_in f B 47 (xb B G I A) (k := 32) (by omega)
theorem xw_33 : xw f B G I A (B + 33) = some (.inl (.int, 25, .inl (arr 25 (A 33)))) := ow_in f B 47 (xb B G I A) (k := 33) (by omega)
theorem xw_34 : xw f B G I A (B + 34) = some (.inl (.int, 25, .inl (arr 25 (A 34)))) := ow_in f B 47 (xb B G I A) (k := 34) (by omega)
theorem xw_35 : xw f B G I A (B + 35) = some (.inl (.int, 25, .inl (arr 25 (A 35)))) := ow_in f B 47 (xb B G I A) (k := 35) (by omega)
theorem xw_36 : xw f B G I A (B + 36) = some (.inl (.int, 25, .inl (arr 25 (A 36)))) := ow_in f B 47 (xb B G I A) (k := 36) (by omega)
theorem xw_37 : xw f B G I A (B + 37) = some (.inl (.int, 25, .inl (arr 25 (A 37)))) := ow_in f B 47 (xb B G I A) (k := 37) (by omega)
theorem xw_38 : xw f B G I A (B + 38) = some (.inl (.int, 25, .inl (arr 25 (A 38)))) := ow_in f B 47 (xb B G I A) (k := 38) (by omega)
theorem xw_39 : xw f B G I A (B + 39) = some (.inl (.int, 25, .inl (arr 25 (A 39)))) := ow_in f B 47 (xb B G I A) (k := 39) (by omega)
theorem xw_40 : xw f B G I A (B + 40) = some (.inl (.int, 25, .inl (arr 25 (A 40)))) := ow_in f B 47 (xb B G I A) (k := 40) (by omega)
theorem xw_41 : xw f B G I A (B + 41) = some (.inr (6, [.ref (B + 42), .ref (B + 45)])) := ow_in f B 47 (xb B G I A) (k := 41) (by omega)
theorem xw_42 : xw f B G I A (B + 42) = some (.inl (.array .int, 2, .inr (.inr (.inr (.inr fun i => if i < 2 then some (B + 43 + i) else none))))) := ow_in f B 47 (xb B G I A) (k := 42) (by omega)
theorem xw_43 : xw f B G I A (B + 43) = some (.inl (.int, 25, .inl (arr 25 (A 43)))) := ow_in f B 47 (xb B G I A) (k := 43) (by omega)
theorem xw_44 : xw f B G I A (B + 44) = some (.inl (.int, 25, .inl (arr 25 (A 44)))) := ow_in f B 47 (xb B G I A) (k := 44) (by omega)
theorem xw_45 : xw f B G I A (B + 45) = some (.inl (.boolean, 2, .inl (arr 2 (A 45)))) := ow_in f B 47 (xb B G I A) (k := 45) (by omega)
theorem xw_46 : xw f B G I A (B + 46) = some (.inl (.int, 5, .inl (arr 5 (A 46)))) := ow_in f B 47 (xb B G I A) (k := 46) (by omega)
theorem xr_0_0 (K : Value → Prop) : z_gR (xw f B G I A) B 9 0 K = K (.ref (B + 1)) := by simp only [z_gR, xw_0, List.getElem?_cons_succ, List.getElem?_cons_zero, true_and]
theorem xr_0_1 (K : Value → Prop) : z_gR (xw f B G I A) B 9 1 K = K (.ref (B + 7)) := by simp only [z_gR, xw_0, List.getElem?_cons_succ, List.getElem?_cons_zero, true_and]
theorem xr_0_2 (K : Value → Prop) : z_gR (xw f B G I A) B 9 2 K = K (.ref (B + 9)) := by simp only [z_gR, xw_0, List.getElem?_cons_succ, List.getElem?_cons_zero, true_and]
theorem xr_0_3 (K : Value → Prop) : z_gR (xw f B G I A) B 9 3 K = K (.ref (B + 16)) := by simp only [z_gR, xw_0, List.getElem?_cons_succ, List.getElem?_cons_zero, true_and]
theorem xr_0_4 (K : Value → Prop) : z_gR (xw f B G I A) B 9 4 K = K (.ref (B + 17)) := by simp only [z_gR, xw_0, List.getElem?_cons_succ, List.getElem?_cons_zero, true_and]
theorem xr_0_5 (K : Value → Prop) : z_gR (xw f B G I A) B 9 5 K = K (.ref (B + 25)) := by simp only [z_gR, xw_0, List.getElem?_cons_succ, List.getElem?_cons_zero, true_and]
theorem xr_0_6 (K : Value → Prop) : z_gR (xw f B G I A) B 9 6 K = K (.ref (B + 27)) := by simp only [z_gR, xw_0, List.getElem?_cons_succ, List.getElem?_cons_zero, true_and]
theorem xr_0_7 (K : Value → Prop) : z_gR (xw f B G I A) B 9 7 K = K (.ref (B + 29)) := by simp only [z_gR, xw_0, List.getElem?_cons_succ, List.getElem?_cons_zero, true_and]
theorem xr_0_8 (K : Value → Prop) : z_gR (xw f B G I A) B 9 8 K = K (.ref (B + 41)) := by simp only [z_gR, xw_0, List.getElem?_cons_succ, List.getElem?_cons_zero, true_and]
theorem xr_0_9 (K : Value → Prop) : z_gR (xw f B G I A) B 9 9 K = K (.ref (B + 46)) := by simp only [z_gR, xw_0, List.getElem?_cons_succ, List.getElem?_cons_zero, true_and]
theorem xg_14 (K : Int32 → Prop) : z_gI (xw f B G I A) B 9 10 K = K (I 14) := by simp only [z_gI, xw_0, List.getElem?_cons_succ, List.getElem?_cons_zero, true_and]
theorem xu_14 (x : Int32) : z_up (xw f B G I A) B (.inr (9, [.ref (B + 1), .ref (B + 7), .ref (B + 9), .ref (B + 16), .ref (B + 17), .ref (B + 25), .ref (B + 27), .ref (B + 29), .ref (B + 41), .ref (B + 46), .int x])) = xw f B G (upd I 14 x) A := (ow_up (f := f) (a := B) (n := 47) (w := xb B G I A) (k := 0) _ (by omega)).trans (ow_congr (al47 rfl rfl rfl rfl rfl rfl rfl rfl rfl rfl rfl rfl rfl rfl rfl rfl rfl rfl rfl rfl rfl rfl rfl rfl rfl rfl rfl rfl rfl rfl rfl rfl rfl rfl rfl rfl rfl rfl rfl rfl rfl rfl rfl rfl rfl rfl rfl))
theorem xp_14 (x : Int32) (K : (Nat → Option z_C) → Prop) : z_pF (xw f B G I A) B 9 10 (.int x) K = K (xw f B G (upd I 14 x) A) := by simp only [z_pF, xw_0, List.set_cons_zero, List.set_cons_succ, List.length_cons, List.length_nil, Nat.reduceAdd, Nat.reduceLT, true_and, xu_14]
theorem xo_0 : z_gO (xw f B G I A) B 9 := by simp only [z_gO, xw_0]
theorem xr_7_0 (K : Value → Prop) : z_gR (xw f B G I A) (B + 7) 7 0 K = K (.ref (B + 8)) := by simp only [z_gR, xw_7, List.getElem?_cons_succ, List.getElem?_cons_zero, true_and]
theorem xg_0 (K : Int32 → Prop) : z_gI (xw f B G I A) (B + 7) 7 1 K = K (I 0) := by simp only [z_gI, xw_7, List.getElem?_cons_succ, List.getElem?_cons_zero, true_and]
theorem xu_0 (x : Int32) : z_up (xw f B G I A) (B + 7) (.inr (7, [.ref (B + 8), .int x, .int (I 1), .int (I 2), .int (I 3), .int (I 4), .int (I 5)])) = xw f B G (upd I 0 x) A := (ow_up (f := f) (a := B) (n := 47) (w := xb B G I A) (k := 7) _ (by omega)).trans (ow_congr (al47 rfl rfl rfl rfl rfl rfl rfl rfl rfl rfl rfl rfl rfl rfl rfl rfl rfl rfl rfl rfl rfl rfl rfl rfl rfl rfl rfl rfl rfl rfl rfl rfl rfl rfl rfl rfl rfl rfl rfl rfl rfl rfl rfl rfl rfl rfl rfl))
theorem xp_0 (x : Int32) (K : (Nat → Option z_C) → Prop) : z_pF (xw f B G I A) (B + 7) 7 1 (.int x) K = K (xw f B G (upd I 0 x) A) := by simp only [z_pF, xw_7, List.set_cons_zero, List.set_cons_succ, List.length_cons, List.length_nil, Nat.reduceAdd, Nat.reduceLT, true_and, xu_0]
theorem xg_1 (K : Int32 → Prop) : z_gI (xw f B G I A) (B + 7) 7 2 K = K (I 1) := by simp only [z_gI, xw_7, List.getElem?_cons_succ, List.getElem?_cons_zero, true_and]
theorem xu_1 (x : Int32) : z_up (xw f B G I A) (B + 7) (.inr (7, [.ref (B + 8), .int (I 0), .int x, .int (I 2), .int (I 3), .int (I 4), .int (I 5)])) = xw f B G (upd I 1 x) A := (ow_up (f := f) (a := B) (n := 47) (w := xb B G I A) (k := 7) _ (by omega)).trans (ow_congr (al47 rfl rfl rfl rfl rfl rfl rfl rfl rfl rfl rfl rfl rfl rfl rfl rfl rfl rfl rfl rfl rfl rfl rfl rfl rfl rfl rfl rfl rfl rfl rfl rfl rfl rfl rfl rfl rfl rfl rfl rfl rfl rfl rfl rfl rfl rfl rfl))
theorem xp_1 (x : Int32) (K : (Nat → Option z_C) → Prop) : z_pF (xw f B G I A) (B + 7) 7 2 (.int x) K = K (xw f B G (upd I 1 x) A) := by simp only [z_pF, xw_7, List.set_cons_zero, List.set_cons_succ, List.length_cons, List.length_nil, Nat.reduceAdd, Nat.reduceLT, true_and, xu_1]
theorem xg_2 (K : Int32 → Prop) : z_gI (xw f B G I A) (B + 7) 7 3 K = K (I 2) := by simp only [z_gI, xw_7, List.getElem?_cons_succ, List.getElem?_cons_zero, true_and]
theorem xu_2 (x : Int32) : z_up (xw f B G I A) (B + 7) (.inr (7, [.ref (B + 8), .int (I 0), .int (I 1), .int x, .int (I 3), .int (I 4), .int (I 5)])) = xw f B G (upd I 2 x) A := (ow_up (f := f) (a := B) (n := 47) (w := xb B G I A) (k := 7) _ (by omega)).trans (ow_congr (al47 rfl rfl rfl rfl rfl rfl rfl rfl rfl rfl rfl rfl rfl rfl rfl rfl rfl rfl rfl rfl rfl rfl rfl rfl rfl rfl rfl rfl rfl rfl rfl rfl rfl rfl rfl rfl rfl rfl rfl rfl rfl rfl rfl rfl rfl rfl rfl))
theorem xp_2 (x : Int32) (K : (Nat → Option z_C) → Prop) : z_pF (xw f B G I A) (B + 7) 7 3 (.int x) K = K (xw f B G (upd I 2 x) A) := by simp only [z_pF, xw_7, List.set_cons_zero, List.set_cons_succ, List.length_cons, List.length_nil, Nat.reduceAdd, Nat.reduceLT, true_and, xu_2]
theorem xg_3 (K : Int32 → Prop) : z_gI (xw f B G I A) (B + 7) 7 4 K = K (I 3) := by simp only [z_gI, xw_7, List.getElem?_cons_succ, List.getElem?_cons_zero, true_and]
theorem xu_3 (x : Int32) : z_up (xw f B G I A) (B + 7) (.inr (7, [.ref (B + 8), .int (I 0), .int (I 1), .int (I 2), .int x, .int (I 4), .int (I 5)])) = xw f B G (upd I 3 x) A := (ow_up (f := f) (a := B) (n := 47) (w := xb B G I A) (k := 7) _ (by omega)).trans (ow_congr (al47 rfl rfl rfl rfl rfl rfl rfl rfl rfl rfl rfl rfl rfl rfl rfl rfl rfl rfl rfl rfl rfl rfl rfl rfl rfl rfl rfl rfl rfl rfl rfl rfl rfl rfl rfl rfl rfl rfl rfl rfl rfl rfl rfl rfl rfl rfl rfl))
theorem xp_3 (x : Int32) (K : (Nat → Option z_C) → Prop) : z_pF (xw f B G I A) (B + 7) 7 4 (.int x) K = K (xw f B G (upd I 3 x) A) := by simp only [z_pF, xw_7, List.set_cons_zero, List.set_cons_succ, List.length_cons, List.length_nil, Nat.reduceAdd, Nat.reduceLT, true_and, xu_3]
theorem xg_4 (K : Int32 → Prop) : z_gI (xw f B G I A) (B + 7) 7 5 K = K (I 4) := by simp only [z_gI, xw_7, List.getElem?_cons_succ, List.getElem?_cons_zero, true_and]
theorem xu_4 (x : Int32) : z_up (xw f B G I A) (B + 7) (.inr (7, [.ref (B + 8), .int (I 0), .int (I 1), .int (I 2), .int (I 3), .int x, .int (I 5)])) = xw f B G (upd I 4 x) A := (ow_up (f := f) (a := B) (n := 47) (w := xb B G I A) (k := 7) _ (by omega)).trans (ow_congr (al47 rfl rfl rfl rfl rfl rfl rfl rfl rfl rfl rfl rfl rfl rfl rfl rfl rfl rfl rfl rfl rfl rfl rfl rfl rfl rfl rfl rfl rfl rfl rfl rfl rfl rfl rfl rfl rfl rfl rfl rfl rfl rfl rfl rfl rfl rfl rfl))
theorem xp_4 (x : Int32) (K : (Nat → Option z_C) → Prop) : z_pF (xw f B G I A) (B + 7) 7 5 (.int x) K = K (xw f B G (upd I 4 x) A) := by simp only [z_pF, xw_7, List.set_cons_zero, List.set_cons_succ, List.length_cons, List.length_nil, Nat.reduceAdd, Nat.reduceLT, true_and, xu_4]
theorem xg_5 (K : Int32 → Prop) : z_gI (xw f B G I A) (B + 7) 7 6 K = K (I 5) := by simp only [z_gI, xw_7, List.getElem?_cons_succ, List.getElem?_cons_zero, true_and]
theorem xu_5 (x : Int32) : z_up (xw f B G I A) (B + 7) (.inr (7, [.ref (B + 8), .int (I 0), .int (I 1), .int (I 2), .int (I 3), .int (I 4), .int x])) = xw f B G (upd I 5 x) A := (ow_up (f := f) (a := B) (n := 47) (w := xb B G I A) (k := 7) _ (by omega)).trans (ow_congr (al47 rfl rfl rfl rfl rfl rfl rfl rfl rfl rfl rfl rfl rfl rfl rfl rfl rfl rfl rfl rfl rfl rfl rfl rfl rfl rfl rfl rfl rfl rfl rfl rfl rfl rfl rfl rfl rfl rfl rfl rfl rfl rfl rfl rfl rfl rfl rfl))
theorem xp_5 (x : Int32) (K : (Nat → Option z_C) → Prop) : z_pF (xw f B G I A) (B + 7) 7 6 (.int x) K = K (xw f B G (upd I 5 x) A) := by simp only [z_pF, xw_7, List.set_cons_zero, List.set_cons_succ, List.length_cons, List.length_nil, Nat.reduceAdd, Nat.reduceLT, true_and, xu_5]
theorem xo_7 : z_gO (xw f B G I A) (B + 7) 7 := by simp only [z_gO, xw_7]
theorem xr_9_0 (K : Value → Prop) : z_gR (xw f B G I A) (B + 9) 5 0 K = K (.ref (B + 7)) := by simp only [z_gR, xw_9, List.getElem?_cons_succ, List.getElem?_cons_zero, true_and]
theorem xr_9_1 (K : Value → Prop) : z_gR (xw f B G I A) (B + 9) 5 1 K = K (.ref (B + 10)) := by simp only [z_gR, xw_9, List.getElem?_cons_succ, List.getElem?_cons_zero, true_and]
theorem xg_6 (K : Int32 → Prop) : z_gI (xw f B G I A) (B + 9) 5 2 K = K (I 6) := by simp only [z_gI, xw_9, List.getElem?_cons_succ, List.getElem?_cons_zero, true_and]
theorem xu_6 (x : Int32) : z_up (xw f B G I A) (B + 9) (.inr (5, [.ref (B + 7), .ref (B + 10), .int x, .int (I 7)])) = xw f B G (upd I 6 x) A := (ow_up (f := f) (a := B) (n := 47) (w := xb B G I A) (k := 9) _ (by omega)).trans (ow_congr (al47 rfl rfl rfl rfl rfl rfl rfl rfl rfl rfl rfl rfl rfl rfl rfl rfl rfl rfl rfl rfl rfl rfl rfl rfl rfl rfl rfl rfl rfl rfl rfl rfl rfl rfl rfl rfl rfl rfl rfl rfl rfl rfl rfl rfl rfl rfl rfl))
theorem xp_6 (x : Int32) (K : (Nat → Option z_C) → Prop) : z_pF (xw f B G I A) (B + 9) 5 2 (.int x) K = K (xw f B G (upd I 6 x) A) := by simp only [z_pF, xw_9, List.set_cons_zero, List.set_cons_succ, List.length_cons, List.length_nil, Nat.reduceAdd, Nat.reduceLT, true_and, xu_6]
theorem xg_7 (K : Int32 → Prop) : z_gI (xw f B G I A) (B + 9) 5 3 K = K (I 7) := by simp only [z_gI, xw_9, List.getElem?_cons_succ, List.getElem?_cons_zero, true_and]
theorem xu_7 (x : Int32) : z_up (xw f B G I A) (B + 9) (.inr (5, [.ref (B + 7), .ref (B + 10), .int (I 6), .int x])) = xw f B G (upd I 7 x) A := (ow_up (f := f) (a := B) (n := 47) (w := xb B G I A) (k := 9) _ (by omega)).trans (ow_congr (al47 rfl rfl rfl rfl rfl rfl rfl rfl rfl rfl rfl rfl rfl rfl rfl rfl rfl rfl rfl rfl rfl rfl rfl rfl rfl rfl rfl rfl rfl rfl rfl rfl rfl rfl rfl rfl rfl rfl rfl rfl rfl rfl rfl rfl rfl rfl rfl))
theorem xp_7 (x : Int32) (K : (Nat → Option z_C) → Prop) : z_pF (xw f B G I A) (B + 9) 5 3 (.int x) K = K (xw f B G (upd I 7 x) A) := by simp only [z_pF, xw_9, List.set_cons_zero, List.set_cons_succ, List.length_cons, List.length_nil, Nat.reduceAdd, Nat.reduceLT, true_and, xu_7]
theorem xo_9 : z_gO (xw f B G I A) (B + 9) 5 := by simp only [z_gO, xw_9]
theorem xr_16_0 (K : Value → Prop) : z_gR (xw f B G I A) (B + 16) 2 0 K = K (.ref (B + 1)) := by simp only [z_gR, xw_16, List.getElem?_cons_succ, List.getElem?_cons_zero, true_and]
theorem xo_16 : z_gO (xw f B G I A) (B + 16) 2 := by simp only [z_gO, xw_16]
theorem xr_17_0 (K : Value → Prop) : z_gR (xw f B G I A) (B + 17) 0 0 K = K (.ref (B + 1)) := by simp only [z_gR, xw_17, List.getElem?_cons_succ, List.getElem?_cons_zero, true_and]
theorem xr_17_1 (K : Value → Prop) : z_gR (xw f B G I A) (B + 17) 0 1 K = K (.ref (B + 18)) := by simp only [z_gR, xw_17, List.getElem?_cons_succ, List.getElem?_cons_zero, true_and]
theorem xr_17_2 (K : Value → Prop) : z_gR (xw f B G I A) (B + 17) 0 2 K = K (.ref (B + 24)) := by simp only [z_gR, xw_17, List.getElem?_cons_succ, List.getElem?_cons_zero, true_and]
theorem xg_8 (K : Int32 → Prop) : z_gI (xw f B G I A) (B + 17) 0 3 K = K (I 8) := by simp only [z_gI, xw_17, List.getElem?_cons_succ, List.getElem?_cons_zero, true_and]
theorem xu_8 (x : Int32) : z_up (xw f B G I A) (B + 17) (.inr (0, [.ref (B + 1), .ref (B + 18), .ref (B + 24), .int x])) = xw f B G (upd I 8 x) A := (ow_up (f := f) (a := B) (n := 47) (w := xb B G I A) (k := 17) _ (by omega)).trans (ow_congr (al47 rfl rfl rfl rfl rfl rfl rfl rfl rfl rfl rfl rfl rfl rfl rfl rfl rfl rfl rfl rfl rfl rfl rfl rfl rfl rfl rfl rfl rfl rfl rfl rfl rfl rfl rfl rfl rfl rfl rfl rfl rfl rfl rfl rfl rfl rfl rfl))
theorem xp_8 (x : Int32) (K : (Nat → Option z_C) → Prop) : z_pF (xw f B G I A) (B + 17) 0 3 (.int x) K = K (xw f B G (upd I 8 x) A) := by simp only [z_pF, xw_17, List.set_cons_zero, List.set_cons_succ, List.length_cons, List.length_nil, Nat.reduceAdd, Nat.reduceLT, true_and, xu_8]
theorem xo_17 : z_gO (xw f B G I A) (B + 17) 0 := by simp only [z_gO, xw_17]
theorem xr_25_0 (K : Value → Prop) : z_gR (xw f B G I A) (B + 25) 8 0 K = K (.ref (B + 1)) := by simp only [z_gR, xw_25, List.getElem?_cons_succ, List.getElem?_cons_zero, true_and]
theorem xr_25_1 (K : Value → Prop) : z_gR (xw f B G I A) (B + 25) 8 1 K = K (.ref (B + 26)) := by simp only [z_gR, xw_25, List.getElem?_cons_succ, List.getElem?_cons_zero, true_and]
theorem xg_9 (K : Int32 → Prop) : z_gI (xw f B G I A) (B + 25) 8 2 K = K (I 9) := by simp only [z_gI, xw_25, List.getElem?_cons_succ, List.getElem?_cons_zero, true_and]
theorem xu_9 (x : Int32) : z_up (xw f B G I A) (B + 25) (.inr (8, [.ref (B + 1), .ref (B + 26), .int x, .int (I 10)])) = xw f B G (upd I 9 x) A := (ow_up (f := f) (a := B) (n := 47) (w := xb B G I A) (k := 25) _ (by omega)).trans (ow_congr (al47 rfl rfl rfl rfl rfl rfl rfl rfl rfl rfl rfl rfl rfl rfl rfl rfl rfl rfl rfl rfl rfl rfl rfl rfl rfl rfl rfl rfl rfl rfl rfl rfl rfl rfl rfl rfl rfl rfl rfl rfl rfl rfl rfl rfl rfl rfl rfl))
theorem xp_9 (x : Int32) (K : (Nat → Option z_C) → Prop) : z_pF (xw f B G I A) (B + 25) 8 2 (.int x) K = K (xw f B G (upd I 9 x) A) := by simp only [z_pF, xw_25, List.set_cons_zero, List.set_cons_succ, List.length_cons, List.length_nil, Nat.reduceAdd, Nat.reduceLT, true_and, xu_9]
theorem xg_10 (K : Int32 → Prop) : z_gI (xw f B G I A) (B + 25) 8 3 K = K (I 10) := by simp only [z_gI, xw_25, List.getElem?_cons_succ, List.getElem?_cons_zero, true_and]
theorem xu_10 (x : Int32) : z_up (xw f B G I A) (B + 25) (.inr (8, [.ref (B + 1), .ref (B + 26), .int (I 9), .int x])) = xw f B G (upd I 10 x) A := (ow_up (f := f) (a := B) (n := 47) (w := xb B G I A) (k := 25) _ (by omega)).trans (ow_congr (al47 rfl rfl rfl rfl rfl rfl rfl rfl rfl rfl rfl rfl rfl rfl rfl rfl rfl rfl rfl rfl rfl rfl rfl rfl rfl rfl rfl rfl rfl rfl rfl rfl rfl rfl rfl rfl rfl rfl rfl rfl rfl rfl rfl rfl rfl rfl rfl))
theorem xp_10 (x : Int32) (K : (Nat → Option z_C) → Prop) : z_pF (xw f B G I A) (B + 25) 8 3 (.int x) K = K (xw f B G (upd I 10 x) A) := by simp only [z_pF, xw_25, List.set_cons_zero, List.set_cons_succ, List.length_cons, List.length_nil, Nat.reduceAdd, Nat.reduceLT, true_and, xu_10]
theorem xo_25 : z_gO (xw f B G I A) (B + 25) 8 := by simp only [z_gO, xw_25]
theorem xr_27_0 (K : Value → Prop) : z_gR (xw f B G I A) (B + 27) 1 0 K = K (.ref (B + 1)) := by simp only [z_gR, xw_27, List.getElem?_cons_succ, List.getElem?_cons_zero, true_and]
theorem xr_27_1 (K : Value → Prop) : z_gR (xw f B G I A) (B + 27) 1 1 K = K (.ref (B + 28)) := by simp only [z_gR, xw_27, List.getElem?_cons_succ, List.getElem?_cons_zero, true_and]
theorem xg_11 (K : Int32 → Prop) : z_gI (xw f B G I A) (B + 27) 1 2 K = K (I 11) := by simp only [z_gI, xw_27, List.getElem?_cons_succ, List.getElem?_cons_zero, true_and]
theorem xu_11 (x : Int32) : z_up (xw f B G I A) (B + 27) (.inr (1, [.ref (B + 1), .ref (B + 28), .int x])) = xw f B G (upd I 11 x) A := (ow_up (f := f) (a := B) (n := 47) (w := xb B G I A) (k := 27) _ (by omega)).trans (ow_congr (al47 rfl rfl rfl rfl rfl rfl rfl rfl rfl rfl rfl rfl rfl rfl rfl rfl rfl rfl rfl rfl rfl rfl rfl rfl rfl rfl rfl rfl rfl rfl rfl rfl rfl rfl rfl rfl rfl rfl rfl rfl rfl rfl rfl rfl rfl rfl rfl))
theorem xp_11 (x : Int32) (K : (Nat → Option z_C) → Prop) : z_pF (xw f B G I A) (B + 27) 1 2 (.int x) K = K (xw f B G (upd I 11 x) A) := by simp only [z_pF, xw_27, List.set_cons_zero, List.set_cons_succ, List.length_cons, List.length_nil, Nat.reduceAdd, Nat.reduceLT, true_and, xu_11]
theorem xo_27 : z_gO (xw f B G I A) (B + 27) 1 := by simp only [z_gO, xw_27]
theorem xr_29_0 (K : Value → Prop) : z_gR (xw f B G I A) (B + 29) 4 0 K = K (.ref (B + 30)) := by simp only [z_gR, xw_29, List.getElem?_cons_succ, List.getElem?_cons_zero, true_and]
theorem xg_12 (K : Int32 → Prop) : z_gI (xw f B G I A) (B + 29) 4 1 K = K (I 12) := by simp only [z_gI, xw_29, List.getElem?_cons_succ, List.getElem?_cons_zero, true_and]
theorem xu_12 (x : Int32) : z_up (xw f B G I A) (B + 29) (.inr (4, [.ref (B + 30), .int x, .int (I 13)])) = xw f B G (upd I 12 x) A := (ow_up (f := f) (a := B) (n := 47) (w := xb B G I A) (k := 29) _ (by omega)).trans (ow_congr (al47 rfl rfl rfl rfl rfl rfl rfl rfl rfl rfl rfl rfl rfl rfl rfl rfl rfl rfl rfl rfl rfl rfl rfl rfl rfl rfl rfl rfl rfl rfl rfl rfl rfl rfl rfl rfl rfl rfl rfl rfl rfl rfl rfl rfl rfl rfl rfl))
theorem xp_12 (x : Int32) (K : (Nat → Option z_C) → Prop) : z_pF (xw f B G I A) (B + 29) 4 1 (.int x) K = K (xw f B G (upd I 12 x) A) := by simp only [z_pF, xw_29, List.set_cons_zero, List.set_cons_succ, List.length_cons, List.length_nil, Nat.reduceAdd, Nat.reduceLT, true_and, xu_12]
theorem xg_13 (K : Int32 → Prop) : z_gI (xw f B G I A) (B + 29) 4 2 K = K (I 13) := by simp only [z_gI, xw_29, List.getElem?_cons_succ, List.getElem?_cons_zero, true_and]
theorem xu_13 (x : Int32) : z_up (xw f B G I A) (B + 29) (.inr (4, [.ref (B + 30), .int (I 12), .int x])) = xw f B G (upd I 13 x) A := (ow_up (f := f) (a := B) (n := 47) (w := xb B G I A) (k := 29) _ (by omega)).trans (ow_congr (al47 rfl rfl rfl rfl rfl rfl rfl rfl rfl rfl rfl rfl rfl rfl rfl rfl rfl rfl rfl rfl rfl rfl rfl rfl rfl rfl rfl rfl rfl rfl rfl rfl rfl rfl rfl rfl rfl rfl rfl rfl rfl rfl rfl rfl rfl rfl rfl))
theorem xp_13 (x : Int32) (K : (Nat → Option z_C) → Prop) : z_pF (xw f B G I A) (B + 29) 4 2 (.int x) K = K (xw f B G (upd I 13 x) A) := by simp only [z_pF, xw_29, List.set_cons_zero, List.set_cons_succ, List.length_cons, List.length_nil, Nat.reduceAdd, Nat.reduceLT, true_and, xu_13]
theorem xo_29 : z_gO (xw f B G I A) (B + 29) 4 := by simp only [z_gO, xw_29]
theorem xr_41_0 (K : Value → Prop) : z_gR (xw f B G I A) (B + 41) 6 0 K = K (.ref (B + 42)) := by simp only [z_gR, xw_41, List.getElem?_cons_succ, List.getElem?_cons_zero, true_and]
theorem xr_41_1 (K : Value → Prop) : z_gR (xw f B G I A) (B + 41) 6 1 K = K (.ref (B + 45)) := by simp only [z_gR, xw_41, List.getElem?_cons_succ, List.getElem?_cons_zero, true_and]
theorem xo_41 : z_gO (xw f B G I A) (B + 41) 6 := by simp only [z_gO, xw_41]
theorem xL_8 {k : Nat} (h : k < 500) (K : Int32 → Prop) : z_aL (xw f B G I A) (B + 8) z_tB (nI k) K = K (A 8 k) := by simp (disch := omega) only [z_aL, xw_8, z_tB, true_and, cI_ix, cI_cl, arr_at]
theorem xe_8 (F : Nat → Int32) : z_up (xw f B G I A) (B + 8) (.inl (.byte, 500, .inl (arr 500 F))) = xw f B G I (uA A 8 F) := (ow_up (f := f) (a := B) (n := 47) (w := xb B G I A) (k := 8) _ (by omega)).trans (ow_congr (al47 rfl rfl rfl rfl rfl rfl rfl rfl rfl rfl rfl rfl rfl rfl rfl rfl rfl rfl rfl rfl rfl rfl rfl rfl rfl rfl rfl rfl rfl rfl rfl rfl rfl rfl rfl rfl rfl rfl rfl rfl rfl rfl rfl rfl rfl rfl rfl))
theorem xS_8 {k : Nat} (h : k < 500) (x : Int32) (K : (Nat → Option z_C) → Prop) : z_aS (xw f B G I A) (B + 8) z_tB (nI k) x K = K (xw f B G I (uA A 8 (upd (A 8) k (x.toInt8.toInt32)))) := by simp (disch := omega) only [z_aS, xw_8, z_tB, true_and, cI_ix, cI_cl, arr_upd, xe_8, vp_nar_byte]
theorem xL_24 {k : Nat} (h : k < 25) (K : Int32 → Prop) : z_aL (xw f B G I A) (B + 24) z_tI (nI k) K = K (A 24 k) := by simp (disch := omega) only [z_aL, xw_24, z_tI, true_and, cI_ix, cI_cl, arr_at]
theorem xe_24 (F : Nat → Int32) : z_up (xw f B G I A) (B + 24) (.inl (.int, 25, .inl (arr 25 F))) = xw f B G I (uA A 24 F) := (ow_up (f := f) (a := B) (n := 47) (w := xb B G I A) (k := 24) _ (by omega)).trans (ow_congr (al47 rfl rfl rfl rfl rfl rfl rfl rfl rfl rfl rfl rfl rfl rfl rfl rfl rfl rfl rfl rfl rfl rfl rfl rfl rfl rfl rfl rfl rfl rfl rfl rfl rfl rfl rfl rfl rfl rfl rfl rfl rfl rfl rfl rfl rfl rfl rfl))
theorem xS_24 {k : Nat} (h : k < 25) (x : Int32) (K : (Nat → Option z_C) → Prop) : z_aS (xw f B G I A) (B + 24) z_tI (nI k) x K = K (xw f B G I (uA A 24 (upd (A 24) k (x)))) := by simp (disch := omega) only [z_aS, xw_24, z_tI, true_and, cI_ix, cI_cl, arr_upd, xe_24]
theorem xL_26 {k : Nat} (h : k < 5) (K : Int32 → Prop) : z_aL (xw f B G I A) (B + 26) z_tI (nI k) K = K (A 26 k) := by simp (disch := omega) only [z_aL, xw_26, z_tI, true_and, cI_ix, cI_cl, arr_at]
theorem xe_26 (F : Nat → Int32) : z_up (xw f B G I A) (B + 26) (.inl (.int, 5, .inl (arr 5 F))) = xw f B G I (uA A 26 F) := (ow_up (f := f) (a := B) (n := 47) (w := xb B G I A) (k := 26) _ (by omega)).trans (ow_congr (al47 rfl rfl rfl rfl rfl rfl rfl rfl rfl rfl rfl rfl rfl rfl rfl rfl rfl rfl rfl rfl rfl rfl rfl rfl rfl rfl rfl rfl rfl rfl rfl rfl rfl rfl rfl rfl rfl rfl rfl rfl rfl rfl rfl rfl rfl rfl rfl))
theorem xS_26 {k : Nat} (h : k < 5) (x : Int32) (K : (Nat → Option z_C) → Prop) : z_aS (xw f B G I A) (B + 26) z_tI (nI k) x K = K (xw f B G I (uA A 26 (upd (A 26) k (x)))) := by simp (disch := omega) only [z_aS, xw_26, z_tI, true_and, cI_ix, cI_cl, arr_upd, xe_26]
theorem xL_28 {k : Nat} (h : k < 20) (K : Int32 → Prop) : z_aL (xw f B G I A) (B + 28) z_tI (nI k) K = K (A 28 k) := by simp (disch := omega) only [z_aL, xw_28, z_tI, true_and, cI_ix, cI_cl, arr_at]
theorem xe_28 (F : Nat → Int32) : z_up (xw f B G I A) (B + 28) (.inl (.int, 20, .inl (arr 20 F))) = xw f B G I (uA A 28 F) := (ow_up (f := f) (a := B) (n := 47) (w := xb B G I A) (k := 28) _ (by omega)).trans (ow_congr (al47 rfl rfl rfl rfl rfl rfl rfl rfl rfl rfl rfl rfl rfl rfl rfl rfl rfl rfl rfl rfl rfl rfl rfl rfl rfl rfl rfl rfl rfl rfl rfl rfl rfl rfl rfl rfl rfl rfl rfl rfl rfl rfl rfl rfl rfl rfl rfl))
theorem xS_28 {k : Nat} (h : k < 20) (x : Int32) (K : (Nat → Option z_C) → Prop) : z_aS (xw f B G I A) (B + 28) z_tI (nI k) x K = K (xw f B G I (uA A 28 (upd (A 28) k (x)))) := by simp (disch := omega) only [z_aS, xw_28, z_tI, true_and, cI_ix, cI_cl, arr_upd, xe_28]
theorem xL_31 {k : Nat} (h : k < 25) (K : Int32 → Prop) : z_aL (xw f B G I A) (B + 31) z_tI (nI k) K = K (A 31 k) := by simp (disch := omega) only [z_aL, xw_31, z_tI, true_and, cI_ix, cI_cl, arr_at]
theorem xe_31 (F : Nat → Int32) : z_up (xw f B G I A) (B + 31) (.inl (.int, 25, .inl (arr 25 F))) = xw f B G I (uA A 31 F) := (ow_up (f := f) (a := B) (n := 47) (w := xb B G I A) (k := 31) _ (by omega)).trans (ow_congr (al47 rfl rfl rfl rfl rfl rfl rfl rfl rfl rfl rfl rfl rfl rfl rfl rfl rfl rfl rfl rfl rfl rfl rfl rfl rfl rfl rfl rfl rfl rfl rfl rfl rfl rfl rfl rfl rfl rfl rfl rfl rfl rfl rfl rfl rfl rfl rfl))
theorem xS_31 {k : Nat} (h : k < 25) (x : Int32) (K : (Nat → Option z_C) → Prop) : z_aS (xw f B G I A) (B + 31) z_tI (nI k) x K = K (xw f B G I (uA A 31 (upd (A 31) k (x)))) := by simp (disch := omega) only [z_aS, xw_31, z_tI, true_and, cI_ix, cI_cl, arr_upd, xe_31]
theorem xL_32 {k : Nat} (h : k < 25) (K : Int32 → Prop) : z_aL (xw f B G I A) (B + 32) z_tI (nI k) K = K (A 32 k) := by simp (disch := omega) only [z_aL, xw_32, z_tI, true_and, cI_ix, cI_cl, arr_at]
theorem xe_32 (F : Nat → Int32) : z_up (xw f B G I A) (B + 32) (.inl (.int, 25, .inl (arr 25 F))) = xw f B G I (uA A 32 F) := (ow_up (f := f) (a := B) (n := 47) (w := xb B G I A) (k := 32) _ (by omega)).trans (ow_congr (al47 rfl rfl rfl rfl rfl rfl rfl rfl rfl rfl rfl rfl rfl rfl rfl rfl rfl rfl rfl rfl rfl rfl rfl rfl rfl rfl rfl rfl rfl rfl rfl rfl rfl rfl rfl rfl rfl rfl rfl rfl rfl rfl rfl rfl rfl rfl rfl))
theorem xS_32 {k : Nat} (h : k < 25) (x : Int32) (K : (Nat → Option z_C) → Prop) : z_aS (xw f B G I A) (B + 32) z_tI (nI k) x K = K (xw f B G I (uA A 32 (upd (A 32) k (x)))) := by simp (disch := omega) only [z_aS, xw_32, z_tI, true_and, cI_ix, cI_cl, arr_upd, xe_32]
theorem xL_33 {k : Nat} (h : k < 25) (K : Int32 → Prop) : z_aL (xw f B G I A) (B + 33) z_tI (nI k) K = K (A 33 k) := by simp (disch := omega) only [z_aL, xw_33, z_tI, true_and, cI_ix, cI_cl, arr_at]
theorem xe_33 (F : Nat → Int32) : z_up (xw f B G I A) (B + 33) (.inl (.int, 25, .inl (arr 25 F))) = xw f B G I (uA A 33 F) := (ow_up (f := f) (a := B) (n := 47) (w := xb B G I A) (k := 33) _ (by omega)).trans (ow_congr (al47 rfl rfl rfl rfl rfl rfl rfl rfl rfl rfl rfl rfl rfl rfl rfl rfl rfl rfl rfl rfl rfl rfl rfl rfl rfl rfl rfl rfl rfl rfl rfl rfl rfl rfl rfl rfl rfl rfl rfl rfl rfl rfl rfl rfl rfl rfl rfl))
theorem xS_33 {k : Nat} (h : k < 25) (x : Int32) (K : (Nat → Option z_C) → Prop) : z_aS (xw f B G I A) (B + 33) z_tI (nI k) x K = K (xw f B G I (uA A 33 (upd (A 33) k (x)))) := by simp (disch := omega) only [z_aS, xw_33, z_tI, true_and, cI_ix, cI_cl, arr_upd, xe_33]
theorem xL_34 {k : Nat} (h : k < 25) (K : Int32 → Prop) : z_aL (xw f B G I A) (B + 34) z_tI (nI k) K = K (A 34 k) := by simp (disch := omega) only [z_aL, xw_34, z_tI, true_and, cI_ix, cI_cl, arr_at]
theorem xe_34 (F : Nat → Int32) : z_up (xw f B G I A) (B + 34) (.inl (.int, 25, .inl (arr 25 F))) = xw f B G I (uA A 34 F) := (ow_up (f := f) (a := B) (n := 47) (w := xb B G I A) (k := 34) _ (by omega)).trans (ow_congr (al47 rfl rfl rfl rfl rfl rfl rfl rfl rfl rfl rfl rfl rfl rfl rfl rfl rfl rfl rfl rfl rfl rfl rfl rfl rfl rfl rfl rfl rfl rfl rfl rfl rfl rfl rfl rfl rfl rfl rfl rfl rfl rfl rfl rfl rfl rfl rfl))
theorem xS_34 {k : Nat} (h : k < 25) (x : Int32) (K : (Nat → Option z_C) → Prop) : z_aS (xw f B G I A) (B + 34) z_tI (nI k) x K = K (xw f B G I (uA A 34 (upd (A 34) k (x)))) := by simp (disch := omega) only [z_aS, xw_34, z_tI, true_and, cI_ix, cI_cl, arr_upd, xe_34]
theorem xL_35 {k : Nat} (h : k < 25) (K : Int32 → Prop) : z_aL (xw f B G I A) (B + 35) z_tI (nI k) K = K (A 35 k) := by simp (disch := omega) only [z_aL, xw_35, z_tI, true_and, cI_ix, cI_cl, arr_at]
theorem xe_35 (F : Nat → Int32) : z_up (xw f B G I A) (B + 35) (.inl (.int, 25, .inl (arr 25 F))) = xw f B G I (uA A 35 F) := (ow_up (f := f) (a := B) (n := 47) (w := xb B G I A) (k := 35) _ (by omega)).trans (ow_congr (al47 rfl rfl rfl rfl rfl rfl rfl rfl rfl rfl rfl rfl rfl rfl rfl rfl rfl rfl rfl rfl rfl rfl rfl rfl rfl rfl rfl rfl rfl rfl rfl rfl rfl rfl rfl rfl rfl rfl rfl rfl rfl rfl rfl rfl rfl rfl rfl))
theorem xS_35 {k : Nat} (h : k < 25) (x : Int32) (K : (Nat → Option z_C) → Prop) : z_aS (xw f B G I A) (B + 35) z_tI (nI k) x K = K (xw f B G I (uA A 35 (upd (A 35) k (x)))) := by simp (disch := omega) only [z_aS, xw_35, z_tI, true_and, cI_ix, cI_cl, arr_upd, xe_35]
theorem xL_36 {k : Nat} (h : k < 25) (K : Int32 → Prop) : z_aL (xw f B G I A) (B + 36) z_tI (nI k) K = K (A 36 k) := by simp (disch := omega) only [z_aL, xw_36, z_tI, true_and, cI_ix, cI_cl, arr_at]
theorem xe_36 (F : Nat → Int32) : z_up (xw f B G I A) (B + 36) (.inl (.int, 25, .inl (arr 25 F))) = xw f B G I (uA A 36 F) := (ow_up (f := f) (a := B) (n := 47) (w := xb B G I A) (k := 36) _ (by omega)).trans (ow_congr (al47 rfl rfl rfl rfl rfl rfl rfl rfl rfl rfl rfl rfl rfl rfl rfl rfl rfl rfl rfl rfl rfl rfl rfl rfl rfl rfl rfl rfl rfl rfl rfl rfl rfl rfl rfl rfl rfl rfl rfl rfl rfl rfl rfl rfl rfl rfl rfl))
theorem xS_36 {k : Nat} (h : k < 25) (x : Int32) (K : (Nat → Option z_C) → Prop) : z_aS (xw f B G I A) (B + 36) z_tI (nI k) x K = K (xw f B G I (uA A 36 (upd (A 36) k (x)))) := by simp (disch := omega) only [z_aS, xw_36, z_tI, true_and, cI_ix, cI_cl, arr_upd, xe_36]
theorem xL_37 {k : Nat} (h : k < 25) (K : Int32 → Prop) : z_aL (xw f B G I A) (B + 37) z_tI (nI k) K = K (A 37 k) := by simp (disch := omega) only [z_aL, xw_37, z_tI, true_and, cI_ix, cI_cl, arr_at]
theorem xe_37 (F : Nat → Int32) : z_up (xw f B G I A) (B + 37) (.inl (.int, 25, .inl (arr 25 F))) = xw f B G I (uA A 37 F) := (ow_up (f := f) (a := B) (n := 47) (w := xb B G I A) (k := 37) _ (by omega)).trans (ow_congr (al47 rfl rfl rfl rfl rfl rfl rfl rfl rfl rfl rfl rfl rfl rfl rfl rfl rfl rfl rfl rfl rfl rfl rfl rfl rfl rfl rfl rfl rfl rfl rfl rfl rfl rfl rfl rfl rfl rfl rfl rfl rfl rfl rfl rfl rfl rfl rfl))
theorem xS_37 {k : Nat} (h : k < 25) (x : Int32) (K : (Nat → Option z_C) → Prop) : z_aS (xw f B G I A) (B + 37) z_tI (nI k) x K = K (xw f B G I (uA A 37 (upd (A 37) k (x)))) := by simp (disch := omega) only [z_aS, xw_37, z_tI, true_and, cI_ix, cI_cl, arr_upd, xe_37]
theorem xL_38 {k : Nat} (h : k < 25) (K : Int32 → Prop) : z_aL (xw f B G I A) (B + 38) z_tI (nI k) K = K (A 38 k) := by simp (disch := omega) only [z_aL, xw_38, z_tI, true_and, cI_ix, cI_cl, arr_at]
theorem xe_38 (F : Nat → Int32) : z_up (xw f B G I A) (B + 38) (.inl (.int, 25, .inl (arr 25 F))) = xw f B G I (uA A 38 F) := (ow_up (f := f) (a := B) (n := 47) (w := xb B G I A) (k := 38) _ (by omega)).trans (ow_congr (al47 rfl rfl rfl rfl rfl rfl rfl rfl rfl rfl rfl rfl rfl rfl rfl rfl rfl rfl rfl rfl rfl rfl rfl rfl rfl rfl rfl rfl rfl rfl rfl rfl rfl rfl rfl rfl rfl rfl rfl rfl rfl rfl rfl rfl rfl rfl rfl))
theorem xS_38 {k : Nat} (h : k < 25) (x : Int32) (K : (Nat → Option z_C) → Prop) : z_aS (xw f B G I A) (B + 38) z_tI (nI k) x K = K (xw f B G I (uA A 38 (upd (A 38) k (x)))) := by simp (disch := omega) only [z_aS, xw_38, z_tI, true_and, cI_ix, cI_cl, arr_upd, xe_38]
theorem xL_39 {k : Nat} (h : k < 25) (K : Int32 → Prop) : z_aL (xw f B G I A) (B + 39) z_tI (nI k) K = K (A 39 k) := by simp (disch := omega) only [z_aL, xw_39, z_tI, true_and, cI_ix, cI_cl, arr_at]
theorem xe_39 (F : Nat → Int32) : z_up (xw f B G I A) (B + 39) (.inl (.int, 25, .inl (arr 25 F))) = xw f B G I (uA A 39 F) := (ow_up (f := f) (a := B) (n := 47) (w := xb B G I A) (k := 39) _ (by omega)).trans (ow_congr (al47 rfl rfl rfl rfl rfl rfl rfl rfl rfl rfl rfl rfl rfl rfl rfl rfl rfl rfl rfl rfl rfl rfl rfl rfl rfl rfl rfl rfl rfl rfl rfl rfl rfl rfl rfl rfl rfl rfl rfl rfl rfl rfl rfl rfl rfl rfl rfl))
theorem xS_39 {k : Nat} (h : k < 25) (x : Int32) (K : (Nat → Option z_C) → Prop) : z_aS (xw f B G I A) (B + 39) z_tI (nI k) x K = K (xw f B G I (uA A 39 (upd (A 39) k (x)))) := by simp (disch := omega) only [z_aS, xw_39, z_tI, true_and, cI_ix, cI_cl, arr_upd, xe_39]
theorem xL_40 {k : Nat} (h : k < 25) (K : Int32 → Prop) : z_aL (xw f B G I A) (B + 40) z_tI (nI k) K = K (A 40 k) := by simp (disch := omega) only [z_aL, xw_40, z_tI, true_and, cI_ix, cI_cl, arr_at]
theorem xe_40 (F : Nat → Int32) : z_up (xw f B G I A) (B + 40) (.inl (.int, 25, .inl (arr 25 F))) = xw f B G I (uA A 40 F) := (ow_up (f := f) (a := B) (n := 47) (w := xb B G I A) (k := 40) _ (by omega)).trans (ow_congr (al47 rfl rfl rfl rfl rfl rfl rfl rfl rfl rfl rfl rfl rfl rfl rfl rfl rfl rfl rfl rfl rfl rfl rfl rfl rfl rfl rfl rfl rfl rfl rfl rfl rfl rfl rfl rfl rfl rfl rfl rfl rfl rfl rfl rfl rfl rfl rfl))
theorem xS_40 {k : Nat} (h : k < 25) (x : Int32) (K : (Nat → Option z_C) → Prop) : z_aS (xw f B G I A) (B + 40) z_tI (nI k) x K = K (xw f B G I (uA A 40 (upd (A 40) k (x)))) := by simp (disch := omega) only [z_aS, xw_40, z_tI, true_and, cI_ix, cI_cl, arr_upd, xe_40]
theorem xL_43 {k : Nat} (h : k < 25) (K : Int32 → Prop) : z_aL (xw f B G I A) (B + 43) z_tI (nI k) K = K (A 43 k) := by simp (disch := omega) only [z_aL, xw_43, z_tI, true_and, cI_ix, cI_cl, arr_at]
theorem xe_43 (F : Nat → Int32) : z_up (xw f B G I A) (B + 43) (.inl (.int, 25, .inl (arr 25 F))) = xw f B G I (uA A 43 F) := (ow_up (f := f) (a := B) (n := 47) (w := xb B G I A) (k := 43) _ (by omega)).trans (ow_congr (al47 rfl rfl rfl rfl rfl rfl rfl rfl rfl rfl rfl rfl rfl rfl rfl rfl rfl rfl rfl rfl rfl rfl rfl rfl rfl rfl rfl rfl rfl rfl rfl rfl rfl rfl rfl rfl rfl rfl rfl rfl rfl rfl rfl rfl rfl rfl rfl))
theorem xS_43 {k : Nat} (h : k < 25) (x : Int32) (K : (Nat → Option z_C) → Prop) : z_aS (xw f B G I A) (B + 43) z_tI (nI k) x K = K (xw f B G I (uA A 43 (upd (A 43) k (x)))) := by simp (disch := omega) only [z_aS, xw_43, z_tI, true_and, cI_ix, cI_cl, arr_upd, xe_43]
theorem xL_44 {k : Nat} (h : k < 25) (K : Int32 → Prop) : z_aL (xw f B G I A) (B + 44) z_tI (nI k) K = K (A 44 k) := by simp (disch := omega) only [z_aL, xw_44, z_tI, true_and, cI_ix, cI_cl, arr_at]
theorem xe_44 (F : Nat → Int32) : z_up (xw f B G I A) (B + 44) (.inl (.int, 25, .inl (arr 25 F))) = xw f B G I (uA A 44 F) := (ow_up (f := f) (a := B) (n := 47) (w := xb B G I A) (k := 44) _ (by omega)).trans (ow_congr (al47 rfl rfl rfl rfl rfl rfl rfl rfl rfl rfl rfl rfl rfl rfl rfl rfl rfl rfl rfl rfl rfl rfl rfl rfl rfl rfl rfl rfl rfl rfl rfl rfl rfl rfl rfl rfl rfl rfl rfl rfl rfl rfl rfl rfl rfl rfl rfl))
theorem xS_44 {k : Nat} (h : k < 25) (x : Int32) (K : (Nat → Option z_C) → Prop) : z_aS (xw f B G I A) (B + 44) z_tI (nI k) x K = K (xw f B G I (uA A 44 (upd (A 44) k (x)))) := by simp (disch := omega) only [z_aS, xw_44, z_tI, true_and, cI_ix, cI_cl, arr_upd, xe_44]
theorem xL_45 {k : Nat} (h : k < 2) (K : Int32 → Prop) : z_aL (xw f B G I A) (B + 45) z_tB (nI k) K = K (A 45 k) := by simp (disch := omega) only [z_aL, xw_45, z_tB, true_and, cI_ix, cI_cl, arr_at]
theorem xe_45 (F : Nat → Int32) : z_up (xw f B G I A) (B + 45) (.inl (.boolean, 2, .inl (arr 2 F))) = xw f B G I (uA A 45 F) := (ow_up (f := f) (a := B) (n := 47) (w := xb B G I A) (k := 45) _ (by omega)).trans (ow_congr (al47 rfl rfl rfl rfl rfl rfl rfl rfl rfl rfl rfl rfl rfl rfl rfl rfl rfl rfl rfl rfl rfl rfl rfl rfl rfl rfl rfl rfl rfl rfl rfl rfl rfl rfl rfl rfl rfl rfl rfl rfl rfl rfl rfl rfl rfl rfl rfl))
theorem xS_45 {k : Nat} (h : k < 2) (x : Int32) (K : (Nat → Option z_C) → Prop) : z_aS (xw f B G I A) (B + 45) z_tB (nI k) x K = K (xw f B G I (uA A 45 (upd (A 45) k (vp_nar .boolean x)))) := by simp (disch := omega) only [z_aS, xw_45, z_tB, true_and, cI_ix, cI_cl, arr_upd, xe_45]
theorem xL_46 {k : Nat} (h : k < 5) (K : Int32 → Prop) : z_aL (xw f B G I A) (B + 46) z_tI (nI k) K = K (A 46 k) := by simp (disch := omega) only [z_aL, xw_46, z_tI, true_and, cI_ix, cI_cl, arr_at]
theorem xe_46 (F : Nat → Int32) : z_up (xw f B G I A) (B + 46) (.inl (.int, 5, .inl (arr 5 F))) = xw f B G I (uA A 46 F) := (ow_up (f := f) (a := B) (n := 47) (w := xb B G I A) (k := 46) _ (by omega)).trans (ow_congr (al47 rfl rfl rfl rfl rfl rfl rfl rfl rfl rfl rfl rfl rfl rfl rfl rfl rfl rfl rfl rfl rfl rfl rfl rfl rfl rfl rfl rfl rfl rfl rfl rfl rfl rfl rfl rfl rfl rfl rfl rfl rfl rfl rfl rfl rfl rfl rfl))
theorem xS_46 {k : Nat} (h : k < 5) (x : Int32) (K : (Nat → Option z_C) → Prop) : z_aS (xw f B G I A) (B + 46) z_tI (nI k) x K = K (xw f B G I (uA A 46 (upd (A 46) k (x)))) := by simp (disch := omega) only [z_aS, xw_46, z_tI, true_and, cI_ix, cI_cl, arr_upd, xe_46]
theorem xq_30 {k : Nat} (h : k < 10) (K : Nat → Prop) : z_qL (xw f B G I A) (B + 30) (nI k) K = K (B + 31 + k) := by simp (disch := omega) only [z_qL, z_tQ, xw_30, true_and, cI_ix, cI_cl, h, if_true]
theorem xq_42 {k : Nat} (h : k < 2) (K : Nat → Prop) : z_qL (xw f B G I A) (B + 42) (nI k) K = K (B + 43 + k) := by simp (disch := omega) only [z_qL, z_tQ, xw_42, true_and, cI_ix, cI_cl, h, if_true]
theorem xr_1_0 (K : Value → Prop) : z_gR (xw f B G I A) (B + 1) 3 0 K = K (.ref (B + 2)) := by simp only [z_gR, xw_1, gb, List.getElem?_cons_succ, List.getElem?_cons_zero, true_and, Nat.add_assoc, Nat.reduceAdd]
theorem xr_1_1 (K : Value → Prop) : z_gR (xw f B G I A) (B + 1) 3 1 K = K (.ref (B + 3)) := by simp only [z_gR, xw_1, gb, List.getElem?_cons_succ, List.getElem?_cons_zero, true_and, Nat.add_assoc, Nat.reduceAdd]
theorem xr_1_2 (K : Value → Prop) : z_gR (xw f B G I A) (B + 1) 3 2 K = K (.ref (B + 4)) := by simp only [z_gR, xw_1, gb, List.getElem?_cons_succ, List.getElem?_cons_zero, true_and, Nat.add_assoc, Nat.reduceAdd]
theorem xr_1_3 (K : Value → Prop) : z_gR (xw f B G I A) (B + 1) 3 3 K = K (.ref (B + 5)) := by simp only [z_gR, xw_1, gb, List.getElem?_cons_succ, List.getElem?_cons_zero, true_and, Nat.add_assoc, Nat.reduceAdd]
theorem xr_1_4 (K : Value → Prop) : z_gR (xw f B G I A) (B + 1) 3 4 K = K (.ref (B + 6)) := by simp only [z_gR, xw_1, gb, List.getElem?_cons_succ, List.getElem?_cons_zero, true_and, Nat.add_assoc, Nat.reduceAdd]
theorem xh_1_0 (K : Int32 → Prop) : z_gI (xw f B G I A) (B + 1) 3 5 K = K (nI ((G 1).R)) := by
  simp only [z_gI, xw_1, gb, List.getElem?_cons_succ, List.getElem?_cons_zero, true_and]
  rfl
theorem xh_1_1 (K : Int32 → Prop) : z_gI (xw f B G I A) (B + 1) 3 6 K = K (nI ((G 1).C)) := by
  simp only [z_gI, xw_1, gb, List.getElem?_cons_succ, List.getElem?_cons_zero, true_and]
  rfl
theorem xh_1_2 (K : Int32 → Prop) : z_gI (xw f B G I A) (B + 1) 3 7 K = K (nI (nF (G 1).c 25)) := by
  simp only [z_gI, xw_1, gb, List.getElem?_cons_succ, List.getElem?_cons_zero, true_and]
  rfl
theorem xh_1_3 (K : Int32 → Prop) : z_gI (xw f B G I A) (B + 1) 3 8 K = K (nI ((G 1).G)) := by
  simp only [z_gI, xw_1, gb, List.getElem?_cons_succ, List.getElem?_cons_zero, true_and]
  rfl
theorem xh_1_4 (K : Int32 → Prop) : z_gI (xw f B G I A) (B + 1) 3 9 K = K (nI ((G 1).N)) := by
  simp only [z_gI, xw_1, gb, List.getElem?_cons_succ, List.getElem?_cons_zero, true_and]
  rfl
theorem xo_1 : z_gO (xw f B G I A) (B + 1) 3 := by simp only [z_gO, xw_1, gb]
theorem xL_2 {k : Nat} (h : k < 25) (K : Int32 → Prop) : z_aL (xw f B G I A) (B + 2) z_tI (nI k) K = K (ce ((G 1).c k)) := by
  simp (disch := omega) only [z_aL, xw_2, gb, z_tI, true_and, cI_ix, cI_cl, arr_at]
  rfl
theorem xL_3 {k : Nat} (h : k < 25) (K : Int32 → Prop) : z_aL (xw f B G I A) (B + 3) z_tB (nI k) K = K (zb ((G 1).gv k)) := by
  simp (disch := omega) only [z_aL, xw_3, gb, z_tB, true_and, cI_ix, cI_cl, arr_at]
  rfl
theorem xL_4 {k : Nat} (h : k < 25) (K : Int32 → Prop) : z_aL (xw f B G I A) (B + 4) z_tI (nI k) K = K (sS ((G 1).b k)) := by
  simp (disch := omega) only [z_aL, xw_4, gb, z_tI, true_and, cI_ix, cI_cl, arr_at]
  rfl
theorem xL_5 {k : Nat} (h : k < 5) (K : Int32 → Prop) : z_aL (xw f B G I A) (B + 5) z_tI (nI k) K = K (sS (rU (G 1).c k)) := by
  simp (disch := omega) only [z_aL, xw_5, gb, z_tI, true_and, cI_ix, cI_cl, arr_at]
  rfl
theorem xL_6 {k : Nat} (h : k < 5) (K : Int32 → Prop) : z_aL (xw f B G I A) (B + 6) z_tI (nI k) K = K (sS (cU (G 1).c k)) := by
  simp (disch := omega) only [z_aL, xw_6, gb, z_tI, true_and, cI_ix, cI_cl, arr_at]
  rfl
theorem xk_1 (S : GS) : gw (xw f B G I A) (B + 1) S.w = xw f B (uG G 1 S) I A := by
  refine (ow_eq (fun k hk => ?_) (fun x hx => ?_)).symm
  · exact match k, hk with | 0, _ => xw_1 f B (uG G 1 S) I A | 1, _ => xw_2 f B (uG G 1 S) I A | 2, _ => xw_3 f B (uG G 1 S) I A | 3, _ => xw_4 f B (uG G 1 S) I A | 4, _ => xw_5 f B (uG G 1 S) I A | 5, _ => xw_6 f B (uG G 1 S) I A
  · by_cases e : B ≤ x ∧ x < B + 47
    · obtain ⟨k, rfl⟩ := Nat.exists_eq_add_of_le e.1
      have hk : k < 47 := by omega
      rw [show xw f B (uG G 1 S) I A (B + k) = some (xb B (uG G 1 S) I A k) from ow_in _ _ _ _ hk, show xw f B G I A (B + k) = some (xb B G I A k) from ow_in _ _ _ _ hk]
      have hn : k < 1 ∨ 7 ≤ k := by omega
      exact al47 (p := fun k => (k < 1 ∨ 7 ≤ k) → some (xb B (uG G 1 S) I A k) = some (xb B G I A k)) (fun _ => rfl) (fun h => by omega) (fun h => by omega) (fun h => by omega) (fun h => by omega) (fun h => by omega) (fun h => by omega) (fun _ => rfl) (fun _ => rfl) (fun _ => rfl) (fun _ => rfl) (fun _ => rfl) (fun _ => rfl) (fun _ => rfl) (fun _ => rfl) (fun _ => rfl) (fun _ => rfl) (fun _ => rfl) (fun _ => rfl) (fun _ => rfl) (fun _ => rfl) (fun _ => rfl) (fun _ => rfl) (fun _ => rfl) (fun _ => rfl) (fun _ => rfl) (fun _ => rfl) (fun _ => rfl) (fun _ => rfl) (fun _ => rfl) (fun _ => rfl) (fun _ => rfl) (fun _ => rfl) (fun _ => rfl) (fun _ => rfl) (fun _ => rfl) (fun _ => rfl) (fun _ => rfl) (fun _ => rfl) (fun _ => rfl) (fun _ => rfl) (fun _ => rfl) (fun _ => rfl) (fun _ => rfl) (fun _ => rfl) (fun _ => rfl) (fun _ => rfl) k hk hn
    · rw [show xw f B (uG G 1 S) I A x = f x from ow_out (by omega), show xw f B G I A x = f x from ow_out (by omega)]
theorem xj_1 : gw (xw f B G I A) (B + 1) (G 1).w = xw f B G I A := by rw [xk_1, uG_id]
theorem xH_1 : HB (xw f B G I A) (B + 1) 6 (gb (B + 1) (G 1).w) := fun k hk => match k, hk with | 0, _ => xw_1 f B G I A | 1, _ => xw_2 f B G I A | 2, _ => xw_3 f B G I A | 3, _ => xw_4 f B G I A | 4, _ => xw_5 f B G I A | 5, _ => xw_6 f B G I A
theorem xr_10_0 (K : Value → Prop) : z_gR (xw f B G I A) (B + 10) 3 0 K = K (.ref (B + 11)) := by simp only [z_gR, xw_10, gb, List.getElem?_cons_succ, List.getElem?_cons_zero, true_and, Nat.add_assoc, Nat.reduceAdd]
theorem xr_10_1 (K : Value → Prop) : z_gR (xw f B G I A) (B + 10) 3 1 K = K (.ref (B + 12)) := by simp only [z_gR, xw_10, gb, List.getElem?_cons_succ, List.getElem?_cons_zero, true_and, Nat.add_assoc, Nat.reduceAdd]
theorem xr_10_2 (K : Value → Prop) : z_gR (xw f B G I A) (B + 10) 3 2 K = K (.ref (B + 13)) := by simp only [z_gR, xw_10, gb, List.getElem?_cons_succ, List.getElem?_cons_zero, true_and, Nat.add_assoc, Nat.reduceAdd]
theorem xr_10_3 (K : Value → Prop) : z_gR (xw f B G I A) (B + 10) 3 3 K = K (.ref (B + 14)) := by simp only [z_gR, xw_10, gb, List.getElem?_cons_succ, List.getElem?_cons_zero, true_and, Nat.add_assoc, Nat.reduceAdd]
theorem xr_10_4 (K : Value → Prop) : z_gR (xw f B G I A) (B + 10) 3 4 K = K (.ref (B + 15)) := by simp only [z_gR, xw_10, gb, List.getElem?_cons_succ, List.getElem?_cons_zero, true_and, Nat.add_assoc, Nat.reduceAdd]
theorem xh_10_0 (K : Int32 → Prop) : z_gI (xw f B G I A) (B + 10) 3 5 K = K (nI ((G 10).R)) := by
  simp only [z_gI, xw_10, gb, List.getElem?_cons_succ, List.getElem?_cons_zero, true_and]
  rfl
theorem xh_10_1 (K : Int32 → Prop) : z_gI (xw f B G I A) (B + 10) 3 6 K = K (nI ((G 10).C)) := by
  simp only [z_gI, xw_10, gb, List.getElem?_cons_succ, List.getElem?_cons_zero, true_and]
  rfl
theorem xh_10_2 (K : Int32 → Prop) : z_gI (xw f B G I A) (B + 10) 3 7 K = K (nI (nF (G 10).c 25)) := by
  simp only [z_gI, xw_10, gb, List.getElem?_cons_succ, List.getElem?_cons_zero, true_and]
  rfl
theorem xh_10_3 (K : Int32 → Prop) : z_gI (xw f B G I A) (B + 10) 3 8 K = K (nI ((G 10).G)) := by
  simp only [z_gI, xw_10, gb, List.getElem?_cons_succ, List.getElem?_cons_zero, true_and]
  rfl
theorem xh_10_4 (K : Int32 → Prop) : z_gI (xw f B G I A) (B + 10) 3 9 K = K (nI ((G 10).N)) := by
  simp only [z_gI, xw_10, gb, List.getElem?_cons_succ, List.getElem?_cons_zero, true_and]
  rfl
theorem xo_10 : z_gO (xw f B G I A) (B + 10) 3 := by simp only [z_gO, xw_10, gb]
theorem xL_11 {k : Nat} (h : k < 25) (K : Int32 → Prop) : z_aL (xw f B G I A) (B + 11) z_tI (nI k) K = K (ce ((G 10).c k)) := by
  simp (disch := omega) only [z_aL, xw_11, gb, z_tI, true_and, cI_ix, cI_cl, arr_at]
  rfl
theorem xL_12 {k : Nat} (h : k < 25) (K : Int32 → Prop) : z_aL (xw f B G I A) (B + 12) z_tB (nI k) K = K (zb ((G 10).gv k)) := by
  simp (disch := omega) only [z_aL, xw_12, gb, z_tB, true_and, cI_ix, cI_cl, arr_at]
  rfl
theorem xL_13 {k : Nat} (h : k < 25) (K : Int32 → Prop) : z_aL (xw f B G I A) (B + 13) z_tI (nI k) K = K (sS ((G 10).b k)) := by
  simp (disch := omega) only [z_aL, xw_13, gb, z_tI, true_and, cI_ix, cI_cl, arr_at]
  rfl
theorem xL_14 {k : Nat} (h : k < 5) (K : Int32 → Prop) : z_aL (xw f B G I A) (B + 14) z_tI (nI k) K = K (sS (rU (G 10).c k)) := by
  simp (disch := omega) only [z_aL, xw_14, gb, z_tI, true_and, cI_ix, cI_cl, arr_at]
  rfl
theorem xL_15 {k : Nat} (h : k < 5) (K : Int32 → Prop) : z_aL (xw f B G I A) (B + 15) z_tI (nI k) K = K (sS (cU (G 10).c k)) := by
  simp (disch := omega) only [z_aL, xw_15, gb, z_tI, true_and, cI_ix, cI_cl, arr_at]
  rfl
theorem xk_10 (S : GS) : gw (xw f B G I A) (B + 10) S.w = xw f B (uG G 10 S) I A := by
  refine (ow_eq (fun k hk => ?_) (fun x hx => ?_)).symm
  · exact match k, hk with | 0, _ => xw_10 f B (uG G 10 S) I A | 1, _ => xw_11 f B (uG G 10 S) I A | 2, _ => xw_12 f B (uG G 10 S) I A | 3, _ => xw_13 f B (uG G 10 S) I A | 4, _ => xw_14 f B (uG G 10 S) I A | 5, _ => xw_15 f B (uG G 10 S) I A
  · by_cases e : B ≤ x ∧ x < B + 47
    · obtain ⟨k, rfl⟩ := Nat.exists_eq_add_of_le e.1
      have hk : k < 47 := by omega
      rw [show xw f B (uG G 10 S) I A (B + k) = some (xb B (uG G 10 S) I A k) from ow_in _ _ _ _ hk, show xw f B G I A (B + k) = some (xb B G I A k) from ow_in _ _ _ _ hk]
      have hn : k < 10 ∨ 16 ≤ k := by omega
      exact al47 (p := fun k => (k < 10 ∨ 16 ≤ k) → some (xb B (uG G 10 S) I A k) = some (xb B G I A k)) (fun _ => rfl) (fun _ => rfl) (fun _ => rfl) (fun _ => rfl) (fun _ => rfl) (fun _ => rfl) (fun _ => rfl) (fun _ => rfl) (fun _ => rfl) (fun _ => rfl) (fun h => by omega) (fun h => by omega) (fun h => by omega) (fun h => by omega) (fun h => by omega) (fun h => by omega) (fun _ => rfl) (fun _ => rfl) (fun _ => rfl) (fun _ => rfl) (fun _ => rfl) (fun _ => rfl) (fun _ => rfl) (fun _ => rfl) (fun _ => rfl) (fun _ => rfl) (fun _ => rfl) (fun _ => rfl) (fun _ => rfl) (fun _ => rfl) (fun _ => rfl) (fun _ => rfl) (fun _ => rfl) (fun _ => rfl) (fun _ => rfl) (fun _ => rfl) (fun _ => rfl) (fun _ => rfl) (fun _ => rfl) (fun _ => rfl) (fun _ => rfl) (fun _ => rfl) (fun _ => rfl) (fun _ => rfl) (fun _ => rfl) (fun _ => rfl) (fun _ => rfl) k hk hn
    · rw [show xw f B (uG G 10 S) I A x = f x from ow_out (by omega), show xw f B G I A x = f x from ow_out (by omega)]
theorem xj_10 : gw (xw f B G I A) (B + 10) (G 10).w = xw f B G I A := by rw [xk_10, uG_id]
theorem xH_10 : HB (xw f B G I A) (B + 10) 6 (gb (B + 10) (G 10).w) := fun k hk => match k, hk with | 0, _ => xw_10 f B G I A | 1, _ => xw_11 f B G I A | 2, _ => xw_12 f B G I A | 3, _ => xw_13 f B G I A | 4, _ => xw_14 f B G I A | 5, _ => xw_15 f B G I A
theorem xr_18_0 (K : Value → Prop) : z_gR (xw f B G I A) (B + 18) 3 0 K = K (.ref (B + 19)) := by simp only [z_gR, xw_18, gb, List.getElem?_cons_succ, List.getElem?_cons_zero, true_and, Nat.add_assoc, Nat.reduceAdd]
theorem xr_18_1 (K : Value → Prop) : z_gR (xw f B G I A) (B + 18) 3 1 K = K (.ref (B + 20)) := by simp only [z_gR, xw_18, gb, List.getElem?_cons_succ, List.getElem?_cons_zero, true_and, Nat.add_assoc, Nat.reduceAdd]
theorem xr_18_2 (K : Value → Prop) : z_gR (xw f B G I A) (B + 18) 3 2 K = K (.ref (B + 21)) := by simp only [z_gR, xw_18, gb, List.getElem?_cons_succ, List.getElem?_cons_zero, true_and, Nat.add_assoc, Nat.reduceAdd]
theorem xr_18_3 (K : Value → Prop) : z_gR (xw f B G I A) (B + 18) 3 3 K = K (.ref (B + 22)) := by simp only [z_gR, xw_18, gb, List.getElem?_cons_succ, List.getElem?_cons_zero, true_and, Nat.add_assoc, Nat.reduceAdd]
theorem xr_18_4 (K : Value → Prop) : z_gR (xw f B G I A) (B + 18) 3 4 K = K (.ref (B + 23)) := by simp only [z_gR, xw_18, gb, List.getElem?_cons_succ, List.getElem?_cons_zero, true_and, Nat.add_assoc, Nat.reduceAdd]
theorem xh_18_0 (K : Int32 → Prop) : z_gI (xw f B G I A) (B + 18) 3 5 K = K (nI ((G 18).R)) := by
  simp only [z_gI, xw_18, gb, List.getElem?_cons_succ, List.getElem?_cons_zero, true_and]
  rfl
theorem xh_18_1 (K : Int32 → Prop) : z_gI (xw f B G I A) (B + 18) 3 6 K = K (nI ((G 18).C)) := by
  simp only [z_gI, xw_18, gb, List.getElem?_cons_succ, List.getElem?_cons_zero, true_and]
  rfl
theorem xh_18_2 (K : Int32 → Prop) : z_gI (xw f B G I A) (B + 18) 3 7 K = K (nI (nF (G 18).c 25)) := by
  simp only [z_gI, xw_18, gb, List.getElem?_cons_succ, List.getElem?_cons_zero, true_and]
  rfl
theorem xh_18_3 (K : Int32 → Prop) : z_gI (xw f B G I A) (B + 18) 3 8 K = K (nI ((G 18).G)) := by
  simp only [z_gI, xw_18, gb, List.getElem?_cons_succ, List.getElem?_cons_zero, true_and]
  rfl
theorem xh_18_4 (K : Int32 → Prop) : z_gI (xw f B G I A) (B + 18) 3 9 K = K (nI ((G 18).N)) := by
  simp only [z_gI, xw_18, gb, List.getElem?_cons_succ, List.getElem?_cons_zero, true_and]
  rfl
theorem xo_18 : z_gO (xw f B G I A) (B + 18) 3 := by simp only [z_gO, xw_18, gb]
theorem xL_19 {k : Nat} (h : k < 25) (K : Int32 → Prop) : z_aL (xw f B G I A) (B + 19) z_tI (nI k) K = K (ce ((G 18).c k)) := by
  simp (disch := omega) only [z_aL, xw_19, gb, z_tI, true_and, cI_ix, cI_cl, arr_at]
  rfl
theorem xL_20 {k : Nat} (h : k < 25) (K : Int32 → Prop) : z_aL (xw f B G I A) (B + 20) z_tB (nI k) K = K (zb ((G 18).gv k)) := by
  simp (disch := omega) only [z_aL, xw_20, gb, z_tB, true_and, cI_ix, cI_cl, arr_at]
  rfl
theorem xL_21 {k : Nat} (h : k < 25) (K : Int32 → Prop) : z_aL (xw f B G I A) (B + 21) z_tI (nI k) K = K (sS ((G 18).b k)) := by
  simp (disch := omega) only [z_aL, xw_21, gb, z_tI, true_and, cI_ix, cI_cl, arr_at]
  rfl
theorem xL_22 {k : Nat} (h : k < 5) (K : Int32 → Prop) : z_aL (xw f B G I A) (B + 22) z_tI (nI k) K = K (sS (rU (G 18).c k)) := by
  simp (disch := omega) only [z_aL, xw_22, gb, z_tI, true_and, cI_ix, cI_cl, arr_at]
  rfl
theorem xL_23 {k : Nat} (h : k < 5) (K : Int32 → Prop) : z_aL (xw f B G I A) (B + 23) z_tI (nI k) K = K (sS (cU (G 18).c k)) := by
  simp (disch := omega) only [z_aL, xw_23, gb, z_tI, true_and, cI_ix, cI_cl, arr_at]
  rfl
theorem xk_18 (S : GS) : gw (xw f B G I A) (B + 18) S.w = xw f B (uG G 18 S) I A := by
  refine (ow_eq (fun k hk => ?_) (fun x hx => ?_)).symm
  · exact match k, hk with | 0, _ => xw_18 f B (uG G 18 S) I A | 1, _ => xw_19 f B (uG G 18 S) I A | 2, _ => xw_20 f B (uG G 18 S) I A | 3, _ => xw_21 f B (uG G 18 S) I A | 4, _ => xw_22 f B (uG G 18 S) I A | 5, _ => xw_23 f B (uG G 18 S) I A
  · by_cases e : B ≤ x ∧ x < B + 47
    · obtain ⟨k, rfl⟩ := Nat.exists_eq_add_of_le e.1
      have hk : k < 47 := by omega
      rw [show xw f B (uG G 18 S) I A (B + k) = some (xb B (uG G 18 S) I A k) from ow_in _ _ _ _ hk, show xw f B G I A (B + k) = some (xb B G I A k) from ow_in _ _ _ _ hk]
      have hn : k < 18 ∨ 24 ≤ k := by omega
      exact al47 (p := fun k => (k < 18 ∨ 24 ≤ k) → some (xb B (uG G 18 S) I A k) = some (xb B G I A k)) (fun _ => rfl) (fun _ => rfl) (fun _ => rfl) (fun _ => rfl) (fun _ => rfl) (fun _ => rfl) (fun _ => rfl) (fun _ => rfl) (fun _ => rfl) (fun _ => rfl) (fun _ => rfl) (fun _ => rfl) (fun _ => rfl) (fun _ => rfl) (fun _ => rfl) (fun _ => rfl) (fun _ => rfl) (fun _ => rfl) (fun h => by omega) (fun h => by omega) (fun h => by omega) (fun h => by omega) (fun h => by omega) (fun h => by omega) (fun _ => rfl) (fun _ => rfl) (fun _ => rfl) (fun _ => rfl) (fun _ => rfl) (fun _ => rfl) (fun _ => rfl) (fun _ => rfl) (fun _ => rfl) (fun _ => rfl) (fun _ => rfl) (fun _ => rfl) (fun _ => rfl) (fun _ => rfl) (fun _ => rfl) (fun _ => rfl) (fun _ => rfl) (fun _ => rfl) (fun _ => rfl) (fun _ => rfl) (fun _ => rfl) (fun _ => rfl) (fun _ => rfl) k hk hn
    · rw [show xw f B (uG G 18 S) I A x = f x from ow_out (by omega), show xw f B G I A x = f x from ow_out (by omega)]
theorem xj_18 : gw (xw f B G I A) (B + 18) (G 18).w = xw f B G I A := by rw [xk_18, uG_id]
theorem xH_18 : HB (xw f B G I A) (B + 18) 6 (gb (B + 18) (G 18).w) := fun k hk => match k, hk with | 0, _ => xw_18 f B G I A | 1, _ => xw_19 f B G I A | 2, _ => xw_20 f B G I A | 3, _ => xw_21 f B G I A | 4, _ => xw_22 f B G I A | 5, _ => xw_23 f B G I A
theorem xcw (T : GS) (ol : Nat → Nat) (n : Nat) : cw (xw f B G I A) (B + 17) (B + 1) T ol n = xw f B (uG G 18 T) (upd I 8 (nI n)) (uA A 24 fun i => nI (ol i)) := by
  have e1 : cwF (xw f B G I A) (B + 17) (B + 1) ol n = xw f B G (upd I 8 (nI n)) (uA A 24 fun i => nI (ol i)) := by
    refine Eq.trans (congrArg (fun z => z_up z (B + 17) (cwO (B + 1) (B + 17) n)) (xe_24 f B G I A _)) ?_
    exact xu_8 f B G I _ (nI n)
  unfold cw
  rw [e1]
  exact xk_18 f B G _ _ T
theorem xw_ne {x : Nat} (h : x < B ∨ B + 47 ≤ x) : xw f B G I A x = f x := ow_out h
theorem xw_congr {G' : Nat → GS} {I' : Nat → Int32} {A' : Nat → Nat → Int32} (h : ∀ k, k < 47 → xb B G I A k = xb B G' I' A' k) : xw f B G I A = xw f B G' I' A' := ow_congr h
theorem xA_congr (i : Nat) {F F' : Nat → Int32} {n : Nat} (hn : n ≤ 46) : True := trivial
theorem xc_8 {F F' : Nat → Int32} (h : ∀ k, k < 500 → F k = F' k) : xw f B G I (uA A 8 F) = xw f B G I (uA A 8 F') := by rw [← xe_8, ← xe_8, arr_congr h]
theorem xc_24 {F F' : Nat → Int32} (h : ∀ k, k < 25 → F k = F' k) : xw f B G I (uA A 24 F) = xw f B G I (uA A 24 F') := by rw [← xe_24, ← xe_24, arr_congr h]
theorem xc_26 {F F' : Nat → Int32} (h : ∀ k, k < 5 → F k = F' k) : xw f B G I (uA A 26 F) = xw f B G I (uA A 26 F') := by rw [← xe_26, ← xe_26, arr_congr h]
theorem xc_28 {F F' : Nat → Int32} (h : ∀ k, k < 20 → F k = F' k) : xw f B G I (uA A 28 F) = xw f B G I (uA A 28 F') := by rw [← xe_28, ← xe_28, arr_congr h]
theorem xc_31 {F F' : Nat → Int32} (h : ∀ k, k < 25 → F k = F' k) : xw f B G I (uA A 31 F) = xw f B G I (uA A 31 F') := by rw [← xe_31, ← xe_31, arr_congr h]
theorem xc_32 {F F' : Nat → Int32} (h : ∀ k, k < 25 → F k = F' k) : xw f B G I (uA A 32 F) = xw f B G I (uA A 32 F') := by rw [← xe_32, ← xe_32, arr_congr h]
theorem xc_33 {F F' : Nat → Int32} (h : ∀ k, k < 25 → F k = F' k) : xw f B G I (uA A 33 F) = xw f B G I (uA A 33 F') := by rw [← xe_33, ← xe_33, arr_congr h]
theorem xc_34 {F F' : Nat → Int32} (h : ∀ k, k < 25 → F k = F' k) : xw f B G I (uA A 34 F) = xw f B G I (uA A 34 F') := by rw [← xe_34, ← xe_34, arr_congr h]
theorem xc_35 {F F' : Nat → Int32} (h : ∀ k, k < 25 → F k = F' k) : xw f B G I (uA A 35 F) = xw f B G I (uA A 35 F') := by rw [← xe_35, ← xe_35, arr_congr h]
theorem xc_36 {F F' : Nat → Int32} (h : ∀ k, k < 25 → F k = F' k) : xw f B G I (uA A 36 F) = xw f B G I (uA A 36 F') := by rw [← xe_36, ← xe_36, arr_congr h]
theorem xc_37 {F F' : Nat → Int32} (h : ∀ k, k < 25 → F k = F' k) : xw f B G I (uA A 37 F) = xw f B G I (uA A 37 F') := by rw [← xe_37, ← xe_37, arr_congr h]
theorem xc_38 {F F' : Nat → Int32} (h : ∀ k, k < 25 → F k = F' k) : xw f B G I (uA A 38 F) = xw f B G I (uA A 38 F') := by rw [← xe_38, ← xe_38, arr_congr h]
theorem xc_39 {F F' : Nat → Int32} (h : ∀ k, k < 25 → F k = F' k) : xw f B G I (uA A 39 F) = xw f B G I (uA A 39 F') := by rw [← xe_39, ← xe_39, arr_congr h]
theorem xc_40 {F F' : Nat → Int32} (h : ∀ k, k < 25 → F k = F' k) : xw f B G I (uA A 40 F) = xw f B G I (uA A 40 F') := by rw [← xe_40, ← xe_40, arr_congr h]
theorem xc_43 {F F' : Nat → Int32} (h : ∀ k, k < 25 → F k = F' k) : xw f B G I (uA A 43 F) = xw f B G I (uA A 43 F') := by rw [← xe_43, ← xe_43, arr_congr h]
theorem xc_44 {F F' : Nat → Int32} (h : ∀ k, k < 25 → F k = F' k) : xw f B G I (uA A 44 F) = xw f B G I (uA A 44 F') := by rw [← xe_44, ← xe_44, arr_congr h]
theorem xc_45 {F F' : Nat → Int32} (h : ∀ k, k < 2 → F k = F' k) : xw f B G I (uA A 45 F) = xw f B G I (uA A 45 F') := by rw [← xe_45, ← xe_45, arr_congr h]
theorem xc_46 {F F' : Nat → Int32} (h : ∀ k, k < 5 → F k = F' k) : xw f B G I (uA A 46 F) = xw f B G I (uA A 46 F') := by rw [← xe_46, ← xe_46, arr_congr h]
end
