/-! the reference: one object of 29 fields (ints by their number), twelve arrays behind it -/
def mfs (m : Nat) (I : Nat → Int32) : List Value := [.int (I 0), .int (I 1), .int (I 2), .int (I 3), .int (I 4), .int (I 5), .int (I 6), .ref (m + 1), .ref (m + 2), .ref (m + 3), .ref (m + 4), .ref (m + 5), .ref (m + 6), .int (I 13), .int (I 14), .int (I 15), .int (I 16), .int (I 17), .int (I 18), .int (I 19), .int (I 20), .int (I 21), .ref (m + 7), .int (I 23), .ref (m + 8), .ref (m + 9), .ref (m + 10), .ref (m + 11), .ref (m + 12)]
def mb (m : Nat) (I : Nat → Int32) (A : Nat → Nat → Int32) : Nat → z_C
  | 0 => .inr (10, mfs m I)
  | 1 => .inl (.int, 25, .inl (arr 25 (A 1)))
  | 2 => .inl (.int, 25, .inl (arr 25 (A 2)))
  | 3 => .inl (.int, 25, .inl (arr 25 (A 3)))
  | 4 => .inl (.int, 25, .inl (arr 25 (A 4)))
  | 5 => .inl (.int, 25, .inl (arr 25 (A 5)))
  | 6 => .inl (.byte, 500, .inl (arr 500 (A 6)))
  | 7 => .inl (.int, 25, .inl (arr 25 (A 7)))
  | 8 => .inl (.int, 250, .inl (arr 250 (A 8)))
  | 9 => .inl (.int, 50, .inl (arr 50 (A 9)))
  | 10 => .inl (.int, 25, .inl (arr 25 (A 10)))
  | 11 => .inl (.int, 25, .inl (arr 25 (A 11)))
  | _ => .inl (.boolean, 2, .inl (arr 2 (A 12)))
def mw (f : Nat → Option z_C) (m : Nat) (I : Nat → Int32) (A : Nat → Nat → Int32) : Nat → Option z_C := ow f m 13 (mb m I A)
def uA (A : Nat → Nat → Int32) (i : Nat) (F : Nat → Int32) : Nat → Nat → Int32 := fun j => if j = i then F else A j
section
variable (f : Nat → Option z_C) (m : Nat) (I : Nat → Int32) (A : Nat → Nat → Int32)
theorem mw_0 : mw f m I A m = some (.inr (10, mfs m I)) := ow_in f m 13 (mb m I A) (k := 0) (by omega)
theorem mw_1 : mw f m I A (m + 1) = some (.inl (.int, 25, .inl (arr 25 (A 1)))) := ow_in f m 13 (mb m I A) (k := 1) (by omega)
theorem mw_2 : mw f m I A (m + 2) = some (.inl (.int, 25, .inl (arr 25 (A 2)))) := ow_in f m 13 (mb m I A) (k := 2) (by omega)
theorem mw_3 : mw f m I A (m + 3) = some (.inl (.int, 25, .inl (arr 25 (A 3)))) := ow_in f m 13 (mb m I A) (k := 3) (by omega)
theorem mw_4 : mw f m I A (m + 4) = some (.inl (.int, 25, .inl (arr 25 (A 4)))) := ow_in f m 13 (mb m I A) (k := 4) (by omega)
theorem mw_5 : mw f m I A (m + 5) = some (.inl (.int, 25, .inl (arr 25 (A 5)))) := ow_in f m 13 (mb m I A) (k := 5) (by omega)
theorem mw_6 : mw f m I A (m + 6) = some (.inl (.byte, 500, .inl (arr 500 (A 6)))) := ow_in f m 13 (mb m I A) (k := 6) (by omega)
theorem mw_7 : mw f m I A (m + 7) = some (.inl (.int, 25, .inl (arr 25 (A 7)))) := ow_in f m 13 (mb m I A) (k := 7) (by omega)
theorem mw_8 : mw f m I A (m + 8) = some (.inl (.int, 250, .inl (arr 250 (A 8)))) := ow_in f m 13 (mb m I A) (k := 8) (by omega)
theorem mw_9 : mw f m I A (m + 9) = some (.inl (.int, 50, .inl (arr 50 (A 9)))) := ow_in f m 13 (mb m I A) (k := 9) (by omega)
theorem mw_10 : mw f m I A (m + 10) = some (.inl (.int, 25, .inl (arr 25 (A 10)))) := ow_in f m 13 (mb m I A) (k := 10) (by omega)
theorem mw_11 : mw f m I A (m + 11) = some (.inl (.int, 25, .inl (arr 25 (A 11)))) := ow_in f m 13 (mb m I A) (k := 11) (by omega)
theorem mw_12 : mw f m I A (m + 12) = some (.inl (.boolean, 2, .inl (arr 2 (A 12)))) := ow_in f m 13 (mb m I A) (k := 12) (by omega)
theorem mg_0 (K : Int32 → Prop) : z_gI (mw f m I A) m 10 0 K = K (I 0) := by simp only [z_gI, mw_0, mfs, List.getElem?_cons_succ, List.getElem?_cons_zero, true_and]
theorem mp_0 (x : Int32) (K : (Nat → Option z_C) → Prop) : z_pF (mw f m I A) m 10 0 (.int x) K = K (mw f m (upd I 0 x) A) := by
  have e : z_up (mw f m I A) m (.inr (10, (mfs m I).set 0 (.int x))) = mw f m (upd I 0 x) A := (ow_up (f := f) (a := m) (n := 13) (w := mb m I A) (k := 0) _ (by omega)).trans (ow_congr fun k hk => by match k, hk with | 0, _ => rfl | 1, _ => rfl | 2, _ => rfl | 3, _ => rfl | 4, _ => rfl | 5, _ => rfl | 6, _ => rfl | 7, _ => rfl | 8, _ => rfl | 9, _ => rfl | 10, _ => rfl | 11, _ => rfl | 12, _ => rfl)
  simp only [z_pF, mw_0, e, true_and, show 0 < (mfs m I).length from by simp [mfs]]
theorem mg_1 (K : Int32 → Prop) : z_gI (mw f m I A) m 10 1 K = K (I 1) := by simp only [z_gI, mw_0, mfs, List.getElem?_cons_succ, List.getElem?_cons_zero, true_and]
theorem mp_1 (x : Int32) (K : (Nat → Option z_C) → Prop) : z_pF (mw f m I A) m 10 1 (.int x) K = K (mw f m (upd I 1 x) A) := by
  have e : z_up (mw f m I A) m (.inr (10, (mfs m I).set 1 (.int x))) = mw f m (upd I 1 x) A := (ow_up (f := f) (a := m) (n := 13) (w := mb m I A) (k := 0) _ (by omega)).trans (ow_congr fun k hk => by match k, hk with | 0, _ => rfl | 1, _ => rfl | 2, _ => rfl | 3, _ => rfl | 4, _ => rfl | 5, _ => rfl | 6, _ => rfl | 7, _ => rfl | 8, _ => rfl | 9, _ => rfl | 10, _ => rfl | 11, _ => rfl | 12, _ => rfl)
  simp only [z_pF, mw_0, e, true_and, show 1 < (mfs m I).length from by simp [mfs]]
theorem mg_2 (K : Int32 → Prop) : z_gI (mw f m I A) m 10 2 K = K (I 2) := by simp only [z_gI, mw_0, mfs, List.getElem?_cons_succ, List.getElem?_cons_zero, true_and]
theorem mp_2 (x : Int32) (K : (Nat → Option z_C) → Prop) : z_pF (mw f m I A) m 10 2 (.int x) K = K (mw f m (upd I 2 x) A) := by
  have e : z_up (mw f m I A) m (.inr (10, (mfs m I).set 2 (.int x))) = mw f m (upd I 2 x) A := (ow_up (f := f) (a := m) (n := 13) (w := mb m I A) (k := 0) _ (by omega)).trans (ow_congr fun k hk => by match k, hk with | 0, _ => rfl | 1, _ => rfl | 2, _ => rfl | 3, _ => rfl | 4, _ => rfl | 5, _ => rfl | 6, _ => rfl | 7, _ => rfl | 8, _ => rfl | 9, _ => rfl | 10, _ => rfl | 11, _ => rfl | 12, _ => rfl)
  simp only [z_pF, mw_0, e, true_and, show 2 < (mfs m I).length from by simp [mfs]]
theorem mg_3 (K : Int32 → Prop) : z_gI (mw f m I A) m 10 3 K = K (I 3) := by simp only [z_gI, mw_0, mfs, List.getElem?_cons_succ, List.getElem?_cons_zero, true_and]
theorem mp_3 (x : Int32) (K : (Nat → Option z_C) → Prop) : z_pF (mw f m I A) m 10 3 (.int x) K = K (mw f m (upd I 3 x) A) := by
  have e : z_up (mw f m I A) m (.inr (10, (mfs m I).set 3 (.int x))) = mw f m (upd I 3 x) A := (ow_up (f := f) (a := m) (n := 13) (w := mb m I A) (k := 0) _ (by omega)).trans (ow_congr fun k hk => by match k, hk with | 0, _ => rfl | 1, _ => rfl | 2, _ => rfl | 3, _ => rfl | 4, _ => rfl | 5, _ => rfl | 6, _ => rfl | 7, _ => rfl | 8, _ => rfl | 9, _ => rfl | 10, _ => rfl | 11, _ => rfl | 12, _ => rfl)
  simp only [z_pF, mw_0, e, true_and, show 3 < (mfs m I).length from by simp [mfs]]
theorem mg_4 (K : Int32 → Prop) : z_gI (mw f m I A) m 10 4 K = K (I 4) := by simp only [z_gI, mw_0, mfs, List.getElem?_cons_succ, List.getElem?_cons_zero, true_and]
theorem mp_4 (x : Int32) (K : (Nat → Option z_C) → Prop) : z_pF (mw f m I A) m 10 4 (.int x) K = K (mw f m (upd I 4 x) A) := by
  have e : z_up (mw f m I A) m (.inr (10, (mfs m I).set 4 (.int x))) = mw f m (upd I 4 x) A := (ow_up (f := f) (a := m) (n := 13) (w := mb m I A) (k := 0) _ (by omega)).trans (ow_congr fun k hk => by match k, hk with | 0, _ => rfl | 1, _ => rfl | 2, _ => rfl | 3, _ => rfl | 4, _ => rfl | 5, _ => rfl | 6, _ => rfl | 7, _ => rfl | 8, _ => rfl | 9, _ => rfl | 10, _ => rfl | 11, _ => rfl | 12, _ => rfl)
  simp only [z_pF, mw_0, e, true_and, show 4 < (mfs m I).length from by simp [mfs]]
theorem mg_5 (K : Int32 → Prop) : z_gI (mw f m I A) m 10 5 K = K (I 5) := by simp only [z_gI, mw_0, mfs, List.getElem?_cons_succ, List.getElem?_cons_zero, true_and]
theorem mp_5 (x : Int32) (K : (Nat → Option z_C) → Prop) : z_pF (mw f m I A) m 10 5 (.int x) K = K (mw f m (upd I 5 x) A) := by
  have e : z_up (mw f m I A) m (.inr (10, (mfs m I).set 5 (.int x))) = mw f m (upd I 5 x) A := (ow_up (f := f) (a := m) (n := 13) (w := mb m I A) (k := 0) _ (by omega)).trans (ow_congr fun k hk => by match k, hk with | 0, _ => rfl | 1, _ => rfl | 2, _ => rfl | 3, _ => rfl | 4, _ => rfl | 5, _ => rfl | 6, _ => rfl | 7, _ => rfl | 8, _ => rfl | 9, _ => rfl | 10, _ => rfl | 11, _ => rfl | 12, _ => rfl)
  simp only [z_pF, mw_0, e, true_and, show 5 < (mfs m I).length from by simp [mfs]]
theorem mg_6 (K : Int32 → Prop) : z_gI (mw f m I A) m 10 6 K = K (I 6) := by simp only [z_gI, mw_0, mfs, List.getElem?_cons_succ, List.getElem?_cons_zero, true_and]
theorem mp_6 (x : Int32) (K : (Nat → Option z_C) → Prop) : z_pF (mw f m I A) m 10 6 (.int x) K = K (mw f m (upd I 6 x) A) := by
  have e : z_up (mw f m I A) m (.inr (10, (mfs m I).set 6 (.int x))) = mw f m (upd I 6 x) A := (ow_up (f := f) (a := m) (n := 13) (w := mb m I A) (k := 0) _ (by omega)).trans (ow_congr fun k hk => by match k, hk with | 0, _ => rfl | 1, _ => rfl | 2, _ => rfl | 3, _ => rfl | 4, _ => rfl | 5, _ => rfl | 6, _ => rfl | 7, _ => rfl | 8, _ => rfl | 9, _ => rfl | 10, _ => rfl | 11, _ => rfl | 12, _ => rfl)
  simp only [z_pF, mw_0, e, true_and, show 6 < (mfs m I).length from by simp [mfs]]
theorem mg_7 (K : Nat → Prop) : z_gR (mw f m I A) m 10 7 K = K (m + 1) := by simp only [z_gR, mw_0, mfs, List.getElem?_cons_succ, List.getElem?_cons_zero, true_and]
theorem mg_8 (K : Nat → Prop) : z_gR (mw f m I A) m 10 8 K = K (m + 2) := by simp only [z_gR, mw_0, mfs, List.getElem?_cons_succ, List.getElem?_cons_zero, true_and]
theorem mg_9 (K : Nat → Prop) : z_gR (mw f m I A) m 10 9 K = K (m + 3) := by simp only [z_gR, mw_0, mfs, List.getElem?_cons_succ, List.getElem?_cons_zero, true_and]
theorem mg_10 (K : Nat → Prop) : z_gR (mw f m I A) m 10 10 K = K (m + 4) := by simp only [z_gR, mw_0, mfs, List.getElem?_cons_succ, List.getElem?_cons_zero, true_and]
theorem mg_11 (K : Nat → Prop) : z_gR (mw f m I A) m 10 11 K = K (m + 5) := by simp only [z_gR, mw_0, mfs, List.getElem?_cons_succ, List.getElem?_cons_zero, true_and]
theorem mg_12 (K : Nat → Prop) : z_gR (mw f m I A) m 10 12 K = K (m + 6) := by simp only [z_gR, mw_0, mfs, List.getElem?_cons_succ, List.getElem?_cons_zero, true_and]
theorem mg_13 (K : Int32 → Prop) : z_gI (mw f m I A) m 10 13 K = K (I 13) := by simp only [z_gI, mw_0, mfs, List.getElem?_cons_succ, List.getElem?_cons_zero, true_and]
theorem mp_13 (x : Int32) (K : (Nat → Option z_C) → Prop) : z_pF (mw f m I A) m 10 13 (.int x) K = K (mw f m (upd I 13 x) A) := by
  have e : z_up (mw f m I A) m (.inr (10, (mfs m I).set 13 (.int x))) = mw f m (upd I 13 x) A := (ow_up (f := f) (a := m) (n := 13) (w := mb m I A) (k := 0) _ (by omega)).trans (ow_congr fun k hk => by match k, hk with | 0, _ => rfl | 1, _ => rfl | 2, _ => rfl | 3, _ => rfl | 4, _ => rfl | 5, _ => rfl | 6, _ => rfl | 7, _ => rfl | 8, _ => rfl | 9, _ => rfl | 10, _ => rfl | 11, _ => rfl | 12, _ => rfl)
  simp only [z_pF, mw_0, e, true_and, show 13 < (mfs m I).length from by simp [mfs]]
theorem mg_14 (K : Int32 → Prop) : z_gI (mw f m I A) m 10 14 K = K (I 14) := by simp only [z_gI, mw_0, mfs, List.getElem?_cons_succ, List.getElem?_cons_zero, true_and]
theorem mp_14 (x : Int32) (K : (Nat → Option z_C) → Prop) : z_pF (mw f m I A) m 10 14 (.int x) K = K (mw f m (upd I 14 x) A) := by
  have e : z_up (mw f m I A) m (.inr (10, (mfs m I).set 14 (.int x))) = mw f m (upd I 14 x) A := (ow_up (f := f) (a := m) (n := 13) (w := mb m I A) (k := 0) _ (by omega)).trans (ow_congr fun k hk => by match k, hk with | 0, _ => rfl | 1, _ => rfl | 2, _ => rfl | 3, _ => rfl | 4, _ => rfl | 5, _ => rfl | 6, _ => rfl | 7, _ => rfl | 8, _ => rfl | 9, _ => rfl | 10, _ => rfl | 11, _ => rfl | 12, _ => rfl)
  simp only [z_pF, mw_0, e, true_and, show 14 < (mfs m I).length from by simp [mfs]]
theorem mg_15 (K : Int32 → Prop) : z_gI (mw f m I A) m 10 15 K = K (I 15) := by simp only [z_gI, mw_0, mfs, List.getElem?_cons_succ, List.getElem?_cons_zero, true_and]
theorem mp_15 (x : Int32) (K : (Nat → Option z_C) → Prop) : z_pF (mw f m I A) m 10 15 (.int x) K = K (mw f m (upd I 15 x) A) := by
  have e : z_up (mw f m I A) m (.inr (10, (mfs m I).set 15 (.int x))) = mw f m (upd I 15 x) A := (ow_up (f := f) (a := m) (n := 13) (w := mb m I A) (k := 0) _ (by omega)).trans (ow_congr fun k hk => by match k, hk with | 0, _ => rfl | 1, _ => rfl | 2, _ => rfl | 3, _ => rfl | 4, _ => rfl | 5, _ => rfl | 6, _ => rfl | 7, _ => rfl | 8, _ => rfl | 9, _ => rfl | 10, _ => rfl | 11, _ => rfl | 12, _ => rfl)
  simp only [z_pF, mw_0, e, true_and, show 15 < (mfs m I).length from by simp [mfs]]
theorem mg_16 (K : Int32 → Prop) : z_gI (mw f m I A) m 10 16 K = K (I 16) := by simp only [z_gI, mw_0, mfs, List.getElem?_cons_succ, List.getElem?_cons_zero, true_and]
theorem mp_16 (x : Int32) (K : (Nat → Option z_C) → Prop) : z_pF (mw f m I A) m 10 16 (.int x) K = K (mw f m (upd I 16 x) A) := by
  have e : z_up (mw f m I A) m (.inr (10, (mfs m I).set 16 (.int x))) = mw f m (upd I 16 x) A := (ow_up (f := f) (a := m) (n := 13) (w := mb m I A) (k := 0) _ (by omega)).trans (ow_congr fun k hk => by match k, hk with | 0, _ => rfl | 1, _ => rfl | 2, _ => rfl | 3, _ => rfl | 4, _ => rfl | 5, _ => rfl | 6, _ => rfl | 7, _ => rfl | 8, _ => rfl | 9, _ => rfl | 10, _ => rfl | 11, _ => rfl | 12, _ => rfl)
  simp only [z_pF, mw_0, e, true_and, show 16 < (mfs m I).length from by simp [mfs]]
theorem mg_17 (K : Int32 → Prop) : z_gI (mw f m I A) m 10 17 K = K (I 17) := by simp only [z_gI, mw_0, mfs, List.getElem?_cons_succ, List.getElem?_cons_zero, true_and]
theorem mp_17 (x : Int32) (K : (Nat → Option z_C) → Prop) : z_pF (mw f m I A) m 10 17 (.int x) K = K (mw f m (upd I 17 x) A) := by
  have e : z_up (mw f m I A) m (.inr (10, (mfs m I).set 17 (.int x))) = mw f m (upd I 17 x) A := (ow_up (f := f) (a := m) (n := 13) (w := mb m I A) (k := 0) _ (by omega)).trans (ow_congr fun k hk => by match k, hk with | 0, _ => rfl | 1, _ => rfl | 2, _ => rfl | 3, _ => rfl | 4, _ => rfl | 5, _ => rfl | 6, _ => rfl | 7, _ => rfl | 8, _ => rfl | 9, _ => rfl | 10, _ => rfl | 11, _ => rfl | 12, _ => rfl)
  simp only [z_pF, mw_0, e, true_and, show 17 < (mfs m I).length from by simp [mfs]]
theorem mg_18 (K : Int32 → Prop) : z_gI (mw f m I A) m 10 18 K = K (I 18) := by simp only [z_gI, mw_0, mfs, List.getElem?_cons_succ, List.getElem?_cons_zero, true_and]
theorem mp_18 (x : Int32) (K : (Nat → Option z_C) → Prop) : z_pF (mw f m I A) m 10 18 (.int x) K = K (mw f m (upd I 18 x) A) := by
  have e : z_up (mw f m I A) m (.inr (10, (mfs m I).set 18 (.int x))) = mw f m (upd I 18 x) A := (ow_up (f := f) (a := m) (n := 13) (w := mb m I A) (k := 0) _ (by omega)).trans (ow_congr fun k hk => by match k, hk with | 0, _ => rfl | 1, _ => rfl | 2, _ => rfl | 3, _ => rfl | 4, _ => rfl | 5, _ => rfl | 6, _ => rfl | 7, _ => rfl | 8, _ => rfl | 9, _ => rfl | 10, _ => rfl | 11, _ => rfl | 12, _ => rfl)
  simp only [z_pF, mw_0, e, true_and, show 18 < (mfs m I).length from by simp [mfs]]
theorem mg_19 (K : Int32 → Prop) : z_gI (mw f m I A) m 10 19 K = K (I 19) := by simp only [z_gI, mw_0, mfs, List.getElem?_cons_succ, List.getElem?_cons_zero, true_and]
theorem mp_19 (x : Int32) (K : (Nat → Option z_C) → Prop) : z_pF (mw f m I A) m 10 19 (.int x) K = K (mw f m (upd I 19 x) A) := by
  have e : z_up (mw f m I A) m (.inr (10, (mfs m I).set 19 (.int x))) = mw f m (upd I 19 x) A := (ow_up (f := f) (a := m) (n := 13) (w := mb m I A) (k := 0) _ (by omega)).trans (ow_congr fun k hk => by match k, hk with | 0, _ => rfl | 1, _ => rfl | 2, _ => rfl | 3, _ => rfl | 4, _ => rfl | 5, _ => rfl | 6, _ => rfl | 7, _ => rfl | 8, _ => rfl | 9, _ => rfl | 10, _ => rfl | 11, _ => rfl | 12, _ => rfl)
  simp only [z_pF, mw_0, e, true_and, show 19 < (mfs m I).length from by simp [mfs]]
theorem mg_20 (K : Int32 → Prop) : z_gI (mw f m I A) m 10 20 K = K (I 20) := by simp only [z_gI, mw_0, mfs, List.getElem?_cons_succ, List.getElem?_cons_zero, true_and]
theorem mp_20 (x : Int32) (K : (Nat → Option z_C) → Prop) : z_pF (mw f m I A) m 10 20 (.int x) K = K (mw f m (upd I 20 x) A) := by
  have e : z_up (mw f m I A) m (.inr (10, (mfs m I).set 20 (.int x))) = mw f m (upd I 20 x) A := (ow_up (f := f) (a := m) (n := 13) (w := mb m I A) (k := 0) _ (by omega)).trans (ow_congr fun k hk => by match k, hk with | 0, _ => rfl | 1, _ => rfl | 2, _ => rfl | 3, _ => rfl | 4, _ => rfl | 5, _ => rfl | 6, _ => rfl | 7, _ => rfl | 8, _ => rfl | 9, _ => rfl | 10, _ => rfl | 11, _ => rfl | 12, _ => rfl)
  simp only [z_pF, mw_0, e, true_and, show 20 < (mfs m I).length from by simp [mfs]]
theorem mg_21 (K : Int32 → Prop) : z_gI (mw f m I A) m 10 21 K = K (I 21) := by simp only [z_gI, mw_0, mfs, List.getElem?_cons_succ, List.getElem?_cons_zero, true_and]
theorem mp_21 (x : Int32) (K : (Nat → Option z_C) → Prop) : z_pF (mw f m I A) m 10 21 (.int x) K = K (mw f m (upd I 21 x) A) := by
  have e : z_up (mw f m I A) m (.inr (10, (mfs m I).set 21 (.int x))) = mw f m (upd I 21 x) A := (ow_up (f := f) (a := m) (n := 13) (w := mb m I A) (k := 0) _ (by omega)).trans (ow_congr fun k hk => by match k, hk with | 0, _ => rfl | 1, _ => rfl | 2, _ => rfl | 3, _ => rfl | 4, _ => rfl | 5, _ => rfl | 6, _ => rfl | 7, _ => rfl | 8, _ => rfl | 9, _ => rfl | 10, _ => rfl | 11, _ => rfl | 12, _ => rfl)
  simp only [z_pF, mw_0, e, true_and, show 21 < (mfs m I).length from by simp [mfs]]
theorem mg_22 (K : Nat → Prop) : z_gR (mw f m I A) m 10 22 K = K (m + 7) := by simp only [z_gR, mw_0, mfs, List.getElem?_cons_succ, List.getElem?_cons_zero, true_and]
theorem mg_23 (K : Int32 → Prop) : z_gI (mw f m I A) m 10 23 K = K (I 23) := by simp only [z_gI, mw_0, mfs, List.getElem?_cons_succ, List.getElem?_cons_zero, true_and]
theorem mp_23 (x : Int32) (K : (Nat → Option z_C) → Prop) : z_pF (mw f m I A) m 10 23 (.int x) K = K (mw f m (upd I 23 x) A) := by
  have e : z_up (mw f m I A) m (.inr (10, (mfs m I).set 23 (.int x))) = mw f m (upd I 23 x) A := (ow_up (f := f) (a := m) (n := 13) (w := mb m I A) (k := 0) _ (by omega)).trans (ow_congr fun k hk => by match k, hk with | 0, _ => rfl | 1, _ => rfl | 2, _ => rfl | 3, _ => rfl | 4, _ => rfl | 5, _ => rfl | 6, _ => rfl | 7, _ => rfl | 8, _ => rfl | 9, _ => rfl | 10, _ => rfl | 11, _ => rfl | 12, _ => rfl)
  simp only [z_pF, mw_0, e, true_and, show 23 < (mfs m I).length from by simp [mfs]]
theorem mg_24 (K : Nat → Prop) : z_gR (mw f m I A) m 10 24 K = K (m + 8) := by simp only [z_gR, mw_0, mfs, List.getElem?_cons_succ, List.getElem?_cons_zero, true_and]
theorem mg_25 (K : Nat → Prop) : z_gR (mw f m I A) m 10 25 K = K (m + 9) := by simp only [z_gR, mw_0, mfs, List.getElem?_cons_succ, List.getElem?_cons_zero, true_and]
theorem mg_26 (K : Nat → Prop) : z_gR (mw f m I A) m 10 26 K = K (m + 10) := by simp only [z_gR, mw_0, mfs, List.getElem?_cons_succ, List.getElem?_cons_zero, true_and]
theorem mg_27 (K : Nat → Prop) : z_gR (mw f m I A) m 10 27 K = K (m + 11) := by simp only [z_gR, mw_0, mfs, List.getElem?_cons_succ, List.getElem?_cons_zero, true_and]
theorem mg_28 (K : Nat → Prop) : z_gR (mw f m I A) m 10 28 K = K (m + 12) := by simp only [z_gR, mw_0, mfs, List.getElem?_cons_succ, List.getElem?_cons_zero, true_and]
theorem mL_1 {k : Nat} (h : k < 25) (K : Int32 → Prop) : z_aL (mw f m I A) (m + 1) z_tI (nI k) K = K (A 1 k) := by simp (disch := omega) only [z_aL, mw_1, z_tI, true_and, cI_ix, cI_cl, arr_at]
theorem mS_1 {k : Nat} (h : k < 25) (x : Int32) (K : (Nat → Option z_C) → Prop) : z_aS (mw f m I A) (m + 1) z_tI (nI k) x K = K (mw f m I (uA A 1 (upd (A 1) k (x)))) := by
  have e : ∀ F, z_up (mw f m I A) (m + 1) (.inl (.int, 25, .inl (arr 25 F))) = mw f m I (uA A 1 F) := fun F => (ow_up (f := f) (a := m) (n := 13) (w := mb m I A) (k := 1) _ (by omega)).trans (ow_congr fun k hk => by match k, hk with | 0, _ => rfl | 1, _ => rfl | 2, _ => rfl | 3, _ => rfl | 4, _ => rfl | 5, _ => rfl | 6, _ => rfl | 7, _ => rfl | 8, _ => rfl | 9, _ => rfl | 10, _ => rfl | 11, _ => rfl | 12, _ => rfl)
  simp (disch := omega) only [z_aS, mw_1, z_tI, true_and, cI_ix, cI_cl, arr_upd, e]
theorem mL_2 {k : Nat} (h : k < 25) (K : Int32 → Prop) : z_aL (mw f m I A) (m + 2) z_tI (nI k) K = K (A 2 k) := by simp (disch := omega) only [z_aL, mw_2, z_tI, true_and, cI_ix, cI_cl, arr_at]
theorem mS_2 {k : Nat} (h : k < 25) (x : Int32) (K : (Nat → Option z_C) → Prop) : z_aS (mw f m I A) (m + 2) z_tI (nI k) x K = K (mw f m I (uA A 2 (upd (A 2) k (x)))) := by
  have e : ∀ F, z_up (mw f m I A) (m + 2) (.inl (.int, 25, .inl (arr 25 F))) = mw f m I (uA A 2 F) := fun F => (ow_up (f := f) (a := m) (n := 13) (w := mb m I A) (k := 2) _ (by omega)).trans (ow_congr fun k hk => by match k, hk with | 0, _ => rfl | 1, _ => rfl | 2, _ => rfl | 3, _ => rfl | 4, _ => rfl | 5, _ => rfl | 6, _ => rfl | 7, _ => rfl | 8, _ => rfl | 9, _ => rfl | 10, _ => rfl | 11, _ => rfl | 12, _ => rfl)
  simp (disch := omega) only [z_aS, mw_2, z_tI, true_and, cI_ix, cI_cl, arr_upd, e]
theorem mL_3 {k : Nat} (h : k < 25) (K : Int32 → Prop) : z_aL (mw f m I A) (m + 3) z_tI (nI k) K = K (A 3 k) := by simp (disch := omega) only [z_aL, mw_3, z_tI, true_and, cI_ix, cI_cl, arr_at]
theorem mS_3 {k : Nat} (h : k < 25) (x : Int32) (K : (Nat → Option z_C) → Prop) : z_aS (mw f m I A) (m + 3) z_tI (nI k) x K = K (mw f m I (uA A 3 (upd (A 3) k (x)))) := by
  have e : ∀ F, z_up (mw f m I A) (m + 3) (.inl (.int, 25, .inl (arr 25 F))) = mw f m I (uA A 3 F) := fun F => (ow_up (f := f) (a := m) (n := 13) (w := mb m I A) (k := 3) _ (by omega)).trans (ow_congr fun k hk => by match k, hk with | 0, _ => rfl | 1, _ => rfl | 2, _ => rfl | 3, _ => rfl | 4, _ => rfl | 5, _ => rfl | 6, _ => rfl | 7, _ => rfl | 8, _ => rfl | 9, _ => rfl | 10, _ => rfl | 11, _ => rfl | 12, _ => rfl)
  simp (disch := omega) only [z_aS, mw_3, z_tI, true_and, cI_ix, cI_cl, arr_upd, e]
theorem mL_4 {k : Nat} (h : k < 25) (K : Int32 → Prop) : z_aL (mw f m I A) (m + 4) z_tI (nI k) K = K (A 4 k) := by simp (disch := omega) only [z_aL, mw_4, z_tI, true_and, cI_ix, cI_cl, arr_at]
theorem mS_4 {k : Nat} (h : k < 25) (x : Int32) (K : (Nat → Option z_C) → Prop) : z_aS (mw f m I A) (m + 4) z_tI (nI k) x K = K (mw f m I (uA A 4 (upd (A 4) k (x)))) := by
  have e : ∀ F, z_up (mw f m I A) (m + 4) (.inl (.int, 25, .inl (arr 25 F))) = mw f m I (uA A 4 F) := fun F => (ow_up (f := f) (a := m) (n := 13) (w := mb m I A) (k := 4) _ (by omega)).trans (ow_congr fun k hk => by match k, hk with | 0, _ => rfl | 1, _ => rfl | 2, _ => rfl | 3, _ => rfl | 4, _ => rfl | 5, _ => rfl | 6, _ => rfl | 7, _ => rfl | 8, _ => rfl | 9, _ => rfl | 10, _ => rfl | 11, _ => rfl | 12, _ => rfl)
  simp (disch := omega) only [z_aS, mw_4, z_tI, true_and, cI_ix, cI_cl, arr_upd, e]
theorem mL_5 {k : Nat} (h : k < 25) (K : Int32 → Prop) : z_aL (mw f m I A) (m + 5) z_tI (nI k) K = K (A 5 k) := by simp (disch := omega) only [z_aL, mw_5, z_tI, true_and, cI_ix, cI_cl, arr_at]
theorem mS_5 {k : Nat} (h : k < 25) (x : Int32) (K : (Nat → Option z_C) → Prop) : z_aS (mw f m I A) (m + 5) z_tI (nI k) x K = K (mw f m I (uA A 5 (upd (A 5) k (x)))) := by
  have e : ∀ F, z_up (mw f m I A) (m + 5) (.inl (.int, 25, .inl (arr 25 F))) = mw f m I (uA A 5 F) := fun F => (ow_up (f := f) (a := m) (n := 13) (w := mb m I A) (k := 5) _ (by omega)).trans (ow_congr fun k hk => by match k, hk with | 0, _ => rfl | 1, _ => rfl | 2, _ => rfl | 3, _ => rfl | 4, _ => rfl | 5, _ => rfl | 6, _ => rfl | 7, _ => rfl | 8, _ => rfl | 9, _ => rfl | 10, _ => rfl | 11, _ => rfl | 12, _ => rfl)
  simp (disch := omega) only [z_aS, mw_5, z_tI, true_and, cI_ix, cI_cl, arr_upd, e]
theorem mL_6 {k : Nat} (h : k < 500) (K : Int32 → Prop) : z_aL (mw f m I A) (m + 6) z_tB (nI k) K = K (A 6 k) := by simp (disch := omega) only [z_aL, mw_6, z_tB, true_and, cI_ix, cI_cl, arr_at]
theorem mS_6 {k : Nat} (h : k < 500) (x : Int32) (K : (Nat → Option z_C) → Prop) : z_aS (mw f m I A) (m + 6) z_tB (nI k) x K = K (mw f m I (uA A 6 (upd (A 6) k (x.toInt8.toInt32)))) := by
  have e : ∀ F, z_up (mw f m I A) (m + 6) (.inl (.byte, 500, .inl (arr 500 F))) = mw f m I (uA A 6 F) := fun F => (ow_up (f := f) (a := m) (n := 13) (w := mb m I A) (k := 6) _ (by omega)).trans (ow_congr fun k hk => by match k, hk with | 0, _ => rfl | 1, _ => rfl | 2, _ => rfl | 3, _ => rfl | 4, _ => rfl | 5, _ => rfl | 6, _ => rfl | 7, _ => rfl | 8, _ => rfl | 9, _ => rfl | 10, _ => rfl | 11, _ => rfl | 12, _ => rfl)
  simp (disch := omega) only [z_aS, mw_6, z_tB, true_and, cI_ix, cI_cl, arr_upd, e, vp_nar_byte]
theorem mL_7 {k : Nat} (h : k < 25) (K : Int32 → Prop) : z_aL (mw f m I A) (m + 7) z_tI (nI k) K = K (A 7 k) := by simp (disch := omega) only [z_aL, mw_7, z_tI, true_and, cI_ix, cI_cl, arr_at]
theorem mS_7 {k : Nat} (h : k < 25) (x : Int32) (K : (Nat → Option z_C) → Prop) : z_aS (mw f m I A) (m + 7) z_tI (nI k) x K = K (mw f m I (uA A 7 (upd (A 7) k (x)))) := by
  have e : ∀ F, z_up (mw f m I A) (m + 7) (.inl (.int, 25, .inl (arr 25 F))) = mw f m I (uA A 7 F) := fun F => (ow_up (f := f) (a := m) (n := 13) (w := mb m I A) (k := 7) _ (by omega)).trans (ow_congr fun k hk => by match k, hk with | 0, _ => rfl | 1, _ => rfl | 2, _ => rfl | 3, _ => rfl | 4, _ => rfl | 5, _ => rfl | 6, _ => rfl | 7, _ => rfl | 8, _ => rfl | 9, _ => rfl | 10, _ => rfl | 11, _ => rfl | 12, _ => rfl)
  simp (disch := omega) only [z_aS, mw_7, z_tI, true_and, cI_ix, cI_cl, arr_upd, e]
theorem mL_8 {k : Nat} (h : k < 250) (K : Int32 → Prop) : z_aL (mw f m I A) (m + 8) z_tI (nI k) K = K (A 8 k) := by simp (disch := omega) only [z_aL, mw_8, z_tI, true_and, cI_ix, cI_cl, arr_at]
theorem mS_8 {k : Nat} (h : k < 250) (x : Int32) (K : (Nat → Option z_C) → Prop) : z_aS (mw f m I A) (m + 8) z_tI (nI k) x K = K (mw f m I (uA A 8 (upd (A 8) k (x)))) := by
  have e : ∀ F, z_up (mw f m I A) (m + 8) (.inl (.int, 250, .inl (arr 250 F))) = mw f m I (uA A 8 F) := fun F => (ow_up (f := f) (a := m) (n := 13) (w := mb m I A) (k := 8) _ (by omega)).trans (ow_congr fun k hk => by match k, hk with | 0, _ => rfl | 1, _ => rfl | 2, _ => rfl | 3, _ => rfl | 4, _ => rfl | 5, _ => rfl | 6, _ => rfl | 7, _ => rfl | 8, _ => rfl | 9, _ => rfl | 10, _ => rfl | 11, _ => rfl | 12, _ => rfl)
  simp (disch := omega) only [z_aS, mw_8, z_tI, true_and, cI_ix, cI_cl, arr_upd, e]
theorem mL_9 {k : Nat} (h : k < 50) (K : Int32 → Prop) : z_aL (mw f m I A) (m + 9) z_tI (nI k) K = K (A 9 k) := by simp (disch := omega) only [z_aL, mw_9, z_tI, true_and, cI_ix, cI_cl, arr_at]
theorem mS_9 {k : Nat} (h : k < 50) (x : Int32) (K : (Nat → Option z_C) → Prop) : z_aS (mw f m I A) (m + 9) z_tI (nI k) x K = K (mw f m I (uA A 9 (upd (A 9) k (x)))) := by
  have e : ∀ F, z_up (mw f m I A) (m + 9) (.inl (.int, 50, .inl (arr 50 F))) = mw f m I (uA A 9 F) := fun F => (ow_up (f := f) (a := m) (n := 13) (w := mb m I A) (k := 9) _ (by omega)).trans (ow_congr fun k hk => by match k, hk with | 0, _ => rfl | 1, _ => rfl | 2, _ => rfl | 3, _ => rfl | 4, _ => rfl | 5, _ => rfl | 6, _ => rfl | 7, _ => rfl | 8, _ => rfl | 9, _ => rfl | 10, _ => rfl | 11, _ => rfl | 12, _ => rfl)
  simp (disch := omega) only [z_aS, mw_9, z_tI, true_and, cI_ix, cI_cl, arr_upd, e]
theorem mL_10 {k : Nat} (h : k < 25) (K : Int32 → Prop) : z_aL (mw f m I A) (m + 10) z_tI (nI k) K = K (A 10 k) := by simp (disch := omega) only [z_aL, mw_10, z_tI, true_and, cI_ix, cI_cl, arr_at]
theorem mS_10 {k : Nat} (h : k < 25) (x : Int32) (K : (Nat → Option z_C) → Prop) : z_aS (mw f m I A) (m + 10) z_tI (nI k) x K = K (mw f m I (uA A 10 (upd (A 10) k (x)))) := by
  have e : ∀ F, z_up (mw f m I A) (m + 10) (.inl (.int, 25, .inl (arr 25 F))) = mw f m I (uA A 10 F) := fun F => (ow_up (f := f) (a := m) (n := 13) (w := mb m I A) (k := 10) _ (by omega)).trans (ow_congr fun k hk => by match k, hk with | 0, _ => rfl | 1, _ => rfl | 2, _ => rfl | 3, _ => rfl | 4, _ => rfl | 5, _ => rfl | 6, _ => rfl | 7, _ => rfl | 8, _ => rfl | 9, _ => rfl | 10, _ => rfl | 11, _ => rfl | 12, _ => rfl)
  simp (disch := omega) only [z_aS, mw_10, z_tI, true_and, cI_ix, cI_cl, arr_upd, e]
theorem mL_11 {k : Nat} (h : k < 25) (K : Int32 → Prop) : z_aL (mw f m I A) (m + 11) z_tI (nI k) K = K (A 11 k) := by simp (disch := omega) only [z_aL, mw_11, z_tI, true_and, cI_ix, cI_cl, arr_at]
theorem mS_11 {k : Nat} (h : k < 25) (x : Int32) (K : (Nat → Option z_C) → Prop) : z_aS (mw f m I A) (m + 11) z_tI (nI k) x K = K (mw f m I (uA A 11 (upd (A 11) k (x)))) := by
  have e : ∀ F, z_up (mw f m I A) (m + 11) (.inl (.int, 25, .inl (arr 25 F))) = mw f m I (uA A 11 F) := fun F => (ow_up (f := f) (a := m) (n := 13) (w := mb m I A) (k := 11) _ (by omega)).trans (ow_congr fun k hk => by match k, hk with | 0, _ => rfl | 1, _ => rfl | 2, _ => rfl | 3, _ => rfl | 4, _ => rfl | 5, _ => rfl | 6, _ => rfl | 7, _ => rfl | 8, _ => rfl | 9, _ => rfl | 10, _ => rfl | 11, _ => rfl | 12, _ => rfl)
  simp (disch := omega) only [z_aS, mw_11, z_tI, true_and, cI_ix, cI_cl, arr_upd, e]
theorem mL_12 {k : Nat} (h : k < 2) (K : Int32 → Prop) : z_aL (mw f m I A) (m + 12) z_tB (nI k) K = K (A 12 k) := by simp (disch := omega) only [z_aL, mw_12, z_tB, true_and, cI_ix, cI_cl, arr_at]
theorem mS_12 {k : Nat} (h : k < 2) (x : Int32) (K : (Nat → Option z_C) → Prop) : z_aS (mw f m I A) (m + 12) z_tB (nI k) x K = K (mw f m I (uA A 12 (upd (A 12) k (vp_nar .boolean x)))) := by
  have e : ∀ F, z_up (mw f m I A) (m + 12) (.inl (.boolean, 2, .inl (arr 2 F))) = mw f m I (uA A 12 F) := fun F => (ow_up (f := f) (a := m) (n := 13) (w := mb m I A) (k := 12) _ (by omega)).trans (ow_congr fun k hk => by match k, hk with | 0, _ => rfl | 1, _ => rfl | 2, _ => rfl | 3, _ => rfl | 4, _ => rfl | 5, _ => rfl | 6, _ => rfl | 7, _ => rfl | 8, _ => rfl | 9, _ => rfl | 10, _ => rfl | 11, _ => rfl | 12, _ => rfl)
  simp (disch := omega) only [z_aS, mw_12, z_tB, true_and, cI_ix, cI_cl, arr_upd, e]
theorem m_gO : z_gO (mw f m I A) m 10 := by simp only [z_gO, mw_0]
theorem mw_ne {x : Nat} (h : x < m ∨ m + 13 ≤ x) : mw f m I A x = f x := ow_out h
theorem mw_congr {I' : Nat → Int32} {A' : Nat → Nat → Int32} (h1 : ∀ k, k < 29 → I k = I' k) (a1 : ∀ k, k < 25 → A 1 k = A' 1 k) (a2 : ∀ k, k < 25 → A 2 k = A' 2 k) (a3 : ∀ k, k < 25 → A 3 k = A' 3 k) (a4 : ∀ k, k < 25 → A 4 k = A' 4 k) (a5 : ∀ k, k < 25 → A 5 k = A' 5 k) (a6 : ∀ k, k < 500 → A 6 k = A' 6 k) (a7 : ∀ k, k < 25 → A 7 k = A' 7 k) (a8 : ∀ k, k < 250 → A 8 k = A' 8 k) (a9 : ∀ k, k < 50 → A 9 k = A' 9 k) (a10 : ∀ k, k < 25 → A 10 k = A' 10 k) (a11 : ∀ k, k < 25 → A 11 k = A' 11 k) (a12 : ∀ k, k < 2 → A 12 k = A' 12 k) : mw f m I A = mw f m I' A' := by
  refine ow_congr fun k hk => ?_
  match k, hk with
  | 0, _ => simp only [mb, mfs, h1 0 (by omega), h1 1 (by omega), h1 2 (by omega), h1 3 (by omega), h1 4 (by omega), h1 5 (by omega), h1 6 (by omega), h1 13 (by omega), h1 14 (by omega), h1 15 (by omega), h1 16 (by omega), h1 17 (by omega), h1 18 (by omega), h1 19 (by omega), h1 20 (by omega), h1 21 (by omega), h1 23 (by omega)]
  | 1, _ => simp only [mb, arr_congr a1]
  | 2, _ => simp only [mb, arr_congr a2]
  | 3, _ => simp only [mb, arr_congr a3]
  | 4, _ => simp only [mb, arr_congr a4]
  | 5, _ => simp only [mb, arr_congr a5]
  | 6, _ => simp only [mb, arr_congr a6]
  | 7, _ => simp only [mb, arr_congr a7]
  | 8, _ => simp only [mb, arr_congr a8]
  | 9, _ => simp only [mb, arr_congr a9]
  | 10, _ => simp only [mb, arr_congr a10]
  | 11, _ => simp only [mb, arr_congr a11]
  | 12, _ => simp only [mb, arr_congr a12]
theorem uA_s (i : Nat) (F : Nat → Int32) : uA A i F i = F := if_pos rfl
theorem uA_n {i j : Nat} (F : Nat → Int32) (h : j ≠ i) : uA A i F j = A j := if_neg h
end
