/-! a Grid: its six cells from a base on -/
abbrev GW : Type := (Nat → Int32) × (Nat → Int32) × (Nat → Int32) × (Nat → Int32) × (Nat → Int32) × (Int32) × (Int32) × (Int32) × (Int32) × (Int32)
def GW.A (W : GW) : Nat → Int32 := W.1
def GW.V (W : GW) : Nat → Int32 := W.2.1
def GW.B (W : GW) : Nat → Int32 := W.2.2.1
def GW.r (W : GW) : Nat → Int32 := W.2.2.2.1
def GW.c (W : GW) : Nat → Int32 := W.2.2.2.2.1
def GW.R (W : GW) : Int32 := W.2.2.2.2.2.1
def GW.C (W : GW) : Int32 := W.2.2.2.2.2.2.1
def GW.F (W : GW) : Int32 := W.2.2.2.2.2.2.2.1
def GW.G (W : GW) : Int32 := W.2.2.2.2.2.2.2.2.1
def GW.N (W : GW) : Int32 := W.2.2.2.2.2.2.2.2.2
theorem pGW_A (A0 : Nat → Int32) (V0 : Nat → Int32) (B0 : Nat → Int32) (r0 : Nat → Int32) (c0 : Nat → Int32) (R0 : Int32) (C0 : Int32) (F0 : Int32) (G0 : Int32) (N0 : Int32) : GW.A (A0, V0, B0, r0, c0, R0, C0, F0, G0, N0) = A0 := rfl
theorem pGW_V (A0 : Nat → Int32) (V0 : Nat → Int32) (B0 : Nat → Int32) (r0 : Nat → Int32) (c0 : Nat → Int32) (R0 : Int32) (C0 : Int32) (F0 : Int32) (G0 : Int32) (N0 : Int32) : GW.V (A0, V0, B0, r0, c0, R0, C0, F0, G0, N0) = V0 := rfl
theorem pGW_B (A0 : Nat → Int32) (V0 : Nat → Int32) (B0 : Nat → Int32) (r0 : Nat → Int32) (c0 : Nat → Int32) (R0 : Int32) (C0 : Int32) (F0 : Int32) (G0 : Int32) (N0 : Int32) : GW.B (A0, V0, B0, r0, c0, R0, C0, F0, G0, N0) = B0 := rfl
theorem pGW_r (A0 : Nat → Int32) (V0 : Nat → Int32) (B0 : Nat → Int32) (r0 : Nat → Int32) (c0 : Nat → Int32) (R0 : Int32) (C0 : Int32) (F0 : Int32) (G0 : Int32) (N0 : Int32) : GW.r (A0, V0, B0, r0, c0, R0, C0, F0, G0, N0) = r0 := rfl
theorem pGW_c (A0 : Nat → Int32) (V0 : Nat → Int32) (B0 : Nat → Int32) (r0 : Nat → Int32) (c0 : Nat → Int32) (R0 : Int32) (C0 : Int32) (F0 : Int32) (G0 : Int32) (N0 : Int32) : GW.c (A0, V0, B0, r0, c0, R0, C0, F0, G0, N0) = c0 := rfl
theorem pGW_R (A0 : Nat → Int32) (V0 : Nat → Int32) (B0 : Nat → Int32) (r0 : Nat → Int32) (c0 : Nat → Int32) (R0 : Int32) (C0 : Int32) (F0 : Int32) (G0 : Int32) (N0 : Int32) : GW.R (A0, V0, B0, r0, c0, R0, C0, F0, G0, N0) = R0 := rfl
theorem pGW_C (A0 : Nat → Int32) (V0 : Nat → Int32) (B0 : Nat → Int32) (r0 : Nat → Int32) (c0 : Nat → Int32) (R0 : Int32) (C0 : Int32) (F0 : Int32) (G0 : Int32) (N0 : Int32) : GW.C (A0, V0, B0, r0, c0, R0, C0, F0, G0, N0) = C0 := rfl
theorem pGW_F (A0 : Nat → Int32) (V0 : Nat → Int32) (B0 : Nat → Int32) (r0 : Nat → Int32) (c0 : Nat → Int32) (R0 : Int32) (C0 : Int32) (F0 : Int32) (G0 : Int32) (N0 : Int32) : GW.F (A0, V0, B0, r0, c0, R0, C0, F0, G0, N0) = F0 := rfl
theorem pGW_G (A0 : Nat → Int32) (V0 : Nat → Int32) (B0 : Nat → Int32) (r0 : Nat → Int32) (c0 : Nat → Int32) (R0 : Int32) (C0 : Int32) (F0 : Int32) (G0 : Int32) (N0 : Int32) : GW.G (A0, V0, B0, r0, c0, R0, C0, F0, G0, N0) = G0 := rfl
theorem pGW_N (A0 : Nat → Int32) (V0 : Nat → Int32) (B0 : Nat → Int32) (r0 : Nat → Int32) (c0 : Nat → Int32) (R0 : Int32) (C0 : Int32) (F0 : Int32) (G0 : Int32) (N0 : Int32) : GW.N (A0, V0, B0, r0, c0, R0, C0, F0, G0, N0) = N0 := rfl
def gb (a : Nat) (W : GW) : Nat → z_C
  | 0 => .inr (3, [.ref (a + 1), .ref (a + 2), .ref (a + 3), .ref (a + 4), .ref (a + 5), .int W.R, .int W.C, .int W.F, .int W.G, .int W.N])
  | 1 => .inl (.int, 25, .inl (arr 25 W.A))
  | 2 => .inl (.boolean, 25, .inl (arr 25 W.V))
  | 3 => .inl (.int, 25, .inl (arr 25 W.B))
  | 4 => .inl (.int, 5, .inl (arr 5 W.r))
  | _ => .inl (.int, 5, .inl (arr 5 W.c))
def gw (f : Nat → Option z_C) (a : Nat) (W : GW) : Nat → Option z_C := ow f a 6 (gb a W)
section
variable (f : Nat → Option z_C) (a : Nat) (W : GW)
theorem gw_0 : gw f a W a = some (.inr (3, [.ref (a + 1), .ref (a + 2), .ref (a + 3), .ref (a + 4), .ref (a + 5), .int W.R, .int W.C, .int W.F, .int W.G, .int W.N])) := ow_in f a 6 (gb a W) (k := 0) (by omega)
theorem gw_1 : gw f a W (a + 1) = some (.inl (.int, 25, .inl (arr 25 W.A))) := ow_in f a 6 (gb a W) (k := 1) (by omega)
theorem gw_2 : gw f a W (a + 2) = some (.inl (.boolean, 25, .inl (arr 25 W.V))) := ow_in f a 6 (gb a W) (k := 2) (by omega)
theorem gw_3 : gw f a W (a + 3) = some (.inl (.int, 25, .inl (arr 25 W.B))) := ow_in f a 6 (gb a W) (k := 3) (by omega)
theorem gw_4 : gw f a W (a + 4) = some (.inl (.int, 5, .inl (arr 5 W.r))) := ow_in f a 6 (gb a W) (k := 4) (by omega)
theorem gw_5 : gw f a W (a + 5) = some (.inl (.int, 5, .inl (arr 5 W.c))) := ow_in f a 6 (gb a W) (k := 5) (by omega)
theorem gw_u0 (R C F G N : Int32) : z_up (gw f a W) a (.inr (3, [.ref (a + 1), .ref (a + 2), .ref (a + 3), .ref (a + 4), .ref (a + 5), .int R, .int C, .int F, .int G, .int N])) = gw f a ⟨W.A, W.V, W.B, W.r, W.c, R, C, F, G, N⟩ :=
  (ow_up (f := f) (a := a) (n := 6) (w := gb a W) (k := 0) _ (by omega)).trans (ow_congr fun k hk => by match k, hk with | 0, _ => rfl | 1, _ => rfl | 2, _ => rfl | 3, _ => rfl | 4, _ => rfl | 5, _ => rfl)
theorem gw_u1 (x : Nat → Int32) : z_up (gw f a W) (a + 1) (.inl (.int, 25, .inl (arr 25 x))) = gw f a ⟨x, W.V, W.B, W.r, W.c, W.R, W.C, W.F, W.G, W.N⟩ :=
  (ow_up (f := f) (a := a) (n := 6) (w := gb a W) (k := 1) _ (by omega)).trans (ow_congr fun k hk => by match k, hk with | 0, _ => rfl | 1, _ => rfl | 2, _ => rfl | 3, _ => rfl | 4, _ => rfl | 5, _ => rfl)
theorem gw_u2 (x : Nat → Int32) : z_up (gw f a W) (a + 2) (.inl (.boolean, 25, .inl (arr 25 x))) = gw f a ⟨W.A, x, W.B, W.r, W.c, W.R, W.C, W.F, W.G, W.N⟩ :=
  (ow_up (f := f) (a := a) (n := 6) (w := gb a W) (k := 2) _ (by omega)).trans (ow_congr fun k hk => by match k, hk with | 0, _ => rfl | 1, _ => rfl | 2, _ => rfl | 3, _ => rfl | 4, _ => rfl | 5, _ => rfl)
theorem gw_u3 (x : Nat → Int32) : z_up (gw f a W) (a + 3) (.inl (.int, 25, .inl (arr 25 x))) = gw f a ⟨W.A, W.V, x, W.r, W.c, W.R, W.C, W.F, W.G, W.N⟩ :=
  (ow_up (f := f) (a := a) (n := 6) (w := gb a W) (k := 3) _ (by omega)).trans (ow_congr fun k hk => by match k, hk with | 0, _ => rfl | 1, _ => rfl | 2, _ => rfl | 3, _ => rfl | 4, _ => rfl | 5, _ => rfl)
theorem gw_u4 (x : Nat → Int32) : z_up (gw f a W) (a + 4) (.inl (.int, 5, .inl (arr 5 x))) = gw f a ⟨W.A, W.V, W.B, x, W.c, W.R, W.C, W.F, W.G, W.N⟩ :=
  (ow_up (f := f) (a := a) (n := 6) (w := gb a W) (k := 4) _ (by omega)).trans (ow_congr fun k hk => by match k, hk with | 0, _ => rfl | 1, _ => rfl | 2, _ => rfl | 3, _ => rfl | 4, _ => rfl | 5, _ => rfl)
theorem gw_u5 (x : Nat → Int32) : z_up (gw f a W) (a + 5) (.inl (.int, 5, .inl (arr 5 x))) = gw f a ⟨W.A, W.V, W.B, W.r, x, W.R, W.C, W.F, W.G, W.N⟩ :=
  (ow_up (f := f) (a := a) (n := 6) (w := gb a W) (k := 5) _ (by omega)).trans (ow_congr fun k hk => by match k, hk with | 0, _ => rfl | 1, _ => rfl | 2, _ => rfl | 3, _ => rfl | 4, _ => rfl | 5, _ => rfl)
theorem gw_ne {x : Nat} (h : x < a ∨ a + 6 ≤ x) : gw f a W x = f x := ow_out h
theorem gw_gw (W' : GW) : gw (gw f a W) a W' = gw f a W' := ow_ow _ _ _ _ _
theorem gw_congr {W W' : GW} (h1 : ∀ k, k < 25 → W.A k = W'.A k) (h2 : ∀ k, k < 25 → W.V k = W'.V k) (h3 : ∀ k, k < 25 → W.B k = W'.B k) (h4 : ∀ k, k < 5 → W.r k = W'.r k) (h5 : ∀ k, k < 5 → W.c k = W'.c k) (h6 : W.R = W'.R ∧ W.C = W'.C ∧ W.F = W'.F ∧ W.G = W'.G ∧ W.N = W'.N) : gw f a W = gw f a W' := by
  refine ow_congr fun k hk => ?_
  obtain ⟨q1, q2, q3, q4, q5⟩ := h6
  match k, hk with
  | 0, _ => simp only [gb, q1, q2, q3, q4, q5]
  | 1, _ => simp only [gb, arr_congr h1]
  | 2, _ => simp only [gb, arr_congr h2]
  | 3, _ => simp only [gb, arr_congr h3]
  | 4, _ => simp only [gb, arr_congr h4]
  | 5, _ => simp only [gb, arr_congr h5]
end
/-- a Grid in words: cells (5: empty), given ones, bans, rows, columns, how many given, how many bans -/
abbrev GS : Type := (Nat → Nat) × (Nat → Bool) × (Nat → Nat → Bool) × (Nat) × (Nat) × (Nat) × (Nat)
def GS.c (W : GS) : Nat → Nat := W.1
def GS.gv (W : GS) : Nat → Bool := W.2.1
def GS.b (W : GS) : Nat → Nat → Bool := W.2.2.1
def GS.R (W : GS) : Nat := W.2.2.2.1
def GS.C (W : GS) : Nat := W.2.2.2.2.1
def GS.G (W : GS) : Nat := W.2.2.2.2.2.1
def GS.N (W : GS) : Nat := W.2.2.2.2.2.2
theorem pGS_c (c0 : Nat → Nat) (gv0 : Nat → Bool) (b0 : Nat → Nat → Bool) (R0 : Nat) (C0 : Nat) (G0 : Nat) (N0 : Nat) : GS.c (c0, gv0, b0, R0, C0, G0, N0) = c0 := rfl
theorem pGS_gv (c0 : Nat → Nat) (gv0 : Nat → Bool) (b0 : Nat → Nat → Bool) (R0 : Nat) (C0 : Nat) (G0 : Nat) (N0 : Nat) : GS.gv (c0, gv0, b0, R0, C0, G0, N0) = gv0 := rfl
theorem pGS_b (c0 : Nat → Nat) (gv0 : Nat → Bool) (b0 : Nat → Nat → Bool) (R0 : Nat) (C0 : Nat) (G0 : Nat) (N0 : Nat) : GS.b (c0, gv0, b0, R0, C0, G0, N0) = b0 := rfl
theorem pGS_R (c0 : Nat → Nat) (gv0 : Nat → Bool) (b0 : Nat → Nat → Bool) (R0 : Nat) (C0 : Nat) (G0 : Nat) (N0 : Nat) : GS.R (c0, gv0, b0, R0, C0, G0, N0) = R0 := rfl
theorem pGS_C (c0 : Nat → Nat) (gv0 : Nat → Bool) (b0 : Nat → Nat → Bool) (R0 : Nat) (C0 : Nat) (G0 : Nat) (N0 : Nat) : GS.C (c0, gv0, b0, R0, C0, G0, N0) = C0 := rfl
theorem pGS_G (c0 : Nat → Nat) (gv0 : Nat → Bool) (b0 : Nat → Nat → Bool) (R0 : Nat) (C0 : Nat) (G0 : Nat) (N0 : Nat) : GS.G (c0, gv0, b0, R0, C0, G0, N0) = G0 := rfl
theorem pGS_N (c0 : Nat → Nat) (gv0 : Nat → Bool) (b0 : Nat → Nat → Bool) (R0 : Nat) (C0 : Nat) (G0 : Nat) (N0 : Nat) : GS.N (c0, gv0, b0, R0, C0, G0, N0) = N0 := rfl
def GS.w (S : GS) : GW := ⟨fun k => ce (S.c k), fun k => zb (S.gv k), fun k => sS (S.b k), fun r => sS (rU S.c r), fun j => sS (cU S.c j), nI S.R, nI S.C, nI (nF S.c 25), nI S.G, nI S.N⟩
section
variable (S : GS)
theorem gs_A : S.w.A = fun k => ce (S.c k) := rfl
theorem gs_V : S.w.V = fun k => zb (S.gv k) := rfl
theorem gs_B : S.w.B = fun k => sS (S.b k) := rfl
theorem gs_r : S.w.r = fun r => sS (rU S.c r) := rfl
theorem gs_c : S.w.c = fun j => sS (cU S.c j) := rfl
theorem gs_R : S.w.R = nI S.R := rfl
theorem gs_C : S.w.C = nI S.C := rfl
theorem gs_F : S.w.F = nI (nF S.c 25) := rfl
theorem gs_G : S.w.G = nI S.G := rfl
theorem gs_N : S.w.N = nI S.N := rfl
end
def GS.cd (S : GS) (r j s : Nat) : Bool := decide (s < S.C) && decide (S.c (r * 5 + j) = 5) && !rU S.c r s && !cU S.c j s && !S.b (r * 5 + j) s
def GS.put (S : GS) (r j s : Nat) : GS := ⟨nu S.c (r * 5 + j) s, S.gv, S.b, S.R, S.C, S.G, S.N⟩
def GS.give (S : GS) (r j s : Nat) : GS := ⟨nu S.c (r * 5 + j) s, fun k => if k = r * 5 + j then true else S.gv k, S.b, S.R, S.C, S.G + 1, S.N⟩
def GS.forbid (S : GS) (k s : Nat) : GS := ⟨S.c, S.gv, fun i t => if i = k then S.b i t || decide (t = s) else S.b i t, S.R, S.C, S.G, S.N + 1⟩
section
variable {g : z_G} {d : Nat} {f : Nat → Option z_C} {q : Option Nat × Nat × Nat} {P : z_Res → Prop} {a : Nat} {S : GS}
theorem s_cand (hc : ∀ k, S.c k ≤ 5) (hC : S.C ≤ 5) {r j : Nat} (hr : r < 5) (hj : j < 5) : z_Ca g d 34 [.ref a, .int (nI r), .int (nI j)] (gw f a S.w, q) P = P (.inr (some (.int (sS (S.cd r j)))), (gw f a S.w, q)) := by
  have e5 := ce_em (hc (r * 5 + j))
  rw [zn_34]
  simp (disch := omega) only [ze_34_0, ze_34_1, ze_34_2, ze_34_3, ze_34_4, ze_34_5, ze_34_6, ze_34_7, ze_34_10, ze_34_11, ze_34_12, ze_34_13, ze_34_16, ze_34_17, ze_34_18, ze_34_19, ze_34_20, ze_34_23, ze_34_24, ze_34_25, ze_34_26, ze_34_27, ze_34_30, ze_34_31, ze_34_32, ze_34_33, ze_34_36, ze_34_37, ze_34_38, ze_34_39, ze_34_40, ze_34_43, ze_34_44, ze_34_45, ze_34_46, ze_34_47, ze_34_48, ze_34_49, z_gI, z_gR, z_pF, z_aL, z_aS, z_gO, z_k_r, z_push_s, z_push_n, okS_0, okS_I, okS_R, okS_A, List.getElem?_cons_zero, List.getElem?_cons_succ, List.length_cons, List.length_nil, List.set_cons_zero, List.set_cons_succ, true_and, and_true, z_tI, z_tB, pk_mul, nI_add, cI_cl, cI_ix, arr_at, arr_upd, nar_0, nar_1, nar_b, Nat.reduceAdd, Nat.reduceLT, Nat.reduceMul, pGW_A, pGW_V, pGW_B, pGW_r, pGW_c, pGW_R, pGW_C, pGW_F, pGW_G, pGW_N, pGS_c, pGS_gv, pGS_b, pGS_R, pGS_C, pGS_G, pGS_N, gw_0, gw_1, gw_2, gw_3, gw_4, gw_5, gw_u0, gw_u1, gw_u2, gw_u3, gw_u4, gw_u5, gs_A, gs_V, gs_B, gs_r, gs_c, gs_R, gs_C, gs_F, gs_G, gs_N]
  by_cases q : S.c (r * 5 + j) = 5
  · rw [if_pos (by rw [e5]; exact q)]
    rw [sS_full hC, sS_or, sS_or, sS_andn]
    congr 5
    refine sS_congr fun s hs => ?_
    simp [GS.cd, q, Bool.and_assoc]
  · rw [if_neg (by rw [e5]; exact q)]
    congr 5
    rw [sS_0]
    refine sS_congr fun s hs => ?_
    simp [GS.cd, q]
theorem s_put {r j s : Nat} (hr : r < 5) (hj : j < 5) (hs : s < 5) (he : S.c (r * 5 + j) = 5) : z_Ca g d 29 [.ref a, .int (nI r), .int (nI j), .int (nI s)] (gw f a S.w, q) P = P (.inr none, (gw f a (S.put r j s).w, q)) := by
  rw [zn_29]
  simp (disch := omega) only [ze_29_0, ze_29_1, ze_29_4, ze_29_5, ze_29_6, ze_29_7, ze_29_8, ze_29_9, ze_29_10, ze_29_11, ze_29_12, ze_29_15, ze_29_16, ze_29_17, ze_29_18, ze_29_19, ze_29_20, ze_29_21, ze_29_22, ze_29_23, ze_29_24, ze_29_27, ze_29_28, ze_29_29, ze_29_30, ze_29_31, ze_29_32, ze_29_33, ze_29_34, ze_29_35, ze_29_36, ze_29_36_i, ze_29_37, ze_29_40, ze_29_41, ze_29_42, ze_29_45, z_gI, z_gR, z_pF, z_aL, z_aS, z_gO, z_k_r, z_push_s, z_push_n, okS_0, okS_I, okS_R, okS_A, List.getElem?_cons_zero, List.getElem?_cons_succ, List.length_cons, List.length_nil, List.set_cons_zero, List.set_cons_succ, true_and, and_true, z_tI, z_tB, pk_mul, nI_add, cI_cl, cI_ix, arr_at, arr_upd, nar_0, nar_1, nar_b, Nat.reduceAdd, Nat.reduceLT, Nat.reduceMul, pGW_A, pGW_V, pGW_B, pGW_r, pGW_c, pGW_R, pGW_C, pGW_F, pGW_G, pGW_N, pGS_c, pGS_gv, pGS_b, pGS_R, pGS_C, pGS_G, pGS_N, gw_0, gw_1, gw_2, gw_3, gw_4, gw_5, gw_u0, gw_u1, gw_u2, gw_u3, gw_u4, gw_u5, gs_A, gs_V, gs_B, gs_r, gs_c, gs_R, gs_C, gs_F, gs_G, gs_N]
  refine congrArg (fun z => P (.inr none, (z, q))) (gw_congr _ _ (fun k hk => ?_) (fun k _ => rfl) (fun k _ => rfl) (fun k hk => ?_) (fun k hk => ?_) ⟨rfl, rfl, ?_, rfl, rfl⟩)
  · simp only [pGW_A, pGW_V, pGW_B, pGW_r, pGW_c, pGW_R, pGW_C, pGW_F, pGW_G, pGW_N, pGS_c, pGS_gv, pGS_b, pGS_R, pGS_C, pGS_G, pGS_N, gs_A, gs_V, gs_B, gs_r, gs_c, gs_R, gs_C, gs_F, gs_G, gs_N, GS.put]
    rw [← ce_lt hs, upd_zc]
  · simp only [pGW_A, pGW_V, pGW_B, pGW_r, pGW_c, pGW_R, pGW_C, pGW_F, pGW_G, pGW_N, pGS_c, pGS_gv, pGS_b, pGS_R, pGS_C, pGS_G, pGS_N, gs_A, gs_V, gs_B, gs_r, gs_c, gs_R, gs_C, gs_F, gs_G, gs_N, GS.put]
    by_cases e : k = r
    · subst e
      rw [upd_at, sS_one hs, sS_or]
      refine sS_congr fun t ht => ?_
      rw [rU_put hj he ht, if_pos rfl]
    · rw [upd_ne e]
      refine sS_congr fun t ht => ?_
      rw [rU_put hj he ht, if_neg e]
  · simp only [pGW_A, pGW_V, pGW_B, pGW_r, pGW_c, pGW_R, pGW_C, pGW_F, pGW_G, pGW_N, pGS_c, pGS_gv, pGS_b, pGS_R, pGS_C, pGS_G, pGS_N, gs_A, gs_V, gs_B, gs_r, gs_c, gs_R, gs_C, gs_F, gs_G, gs_N, GS.put]
    by_cases e : k = j
    · subst e
      rw [upd_at, sS_one hs, sS_or]
      refine sS_congr fun t ht => ?_
      rw [cU_put hr hj he ht, if_pos rfl]
    · rw [upd_ne e]
      refine sS_congr fun t ht => ?_
      rw [cU_put hr hj he ht, if_neg e]
  · simp only [pGW_A, pGW_V, pGW_B, pGW_r, pGW_c, pGW_R, pGW_C, pGW_F, pGW_G, pGW_N, pGS_c, pGS_gv, pGS_b, pGS_R, pGS_C, pGS_G, pGS_N, gs_A, gs_V, gs_B, gs_r, gs_c, gs_R, gs_C, gs_F, gs_G, gs_N, GS.put]
    rw [nF_put S.c (by omega) he 25 (by omega)]
end
