/-! the law makes a Grid and its text -/
section
variable (f : Nat → Option z_C) (Q : Nat) (S : GS) (X : LX) {r j : Nat}
def GS.gvn (S : GS) (k : Nat) : GS := ⟨S.c, fun i => if i = k then true else S.gv i, S.b, S.R, S.C, S.G, S.N⟩
def GS.bn (S : GS) (k s : Nat) : GS := ⟨S.c, S.gv, fun i t => if i = k then S.b i t || decide (t = s) else S.b i t, S.R, S.C, S.G, S.N⟩
theorem lG_giv (hr : r < S.R) (hj : j < S.C) (hC : S.C ≤ 5) (K : (Nat → Option z_C) → Prop) : z_aS (lgw f Q S X) (Q + 3 + S.R + r) z_tB (nI j) (nI 1) K = K (lgw f Q (S.gvn (r * 5 + j)) X) := by
  simp (disch := omega) only [z_aS, lg_g hr, z_tB, true_and, cI_ix, cI_cl, arr_upd]
  refine congrArg K ?_
  rw [show Q + 3 + S.R + r = Q + (3 + S.R + r) by omega]
  refine lg_w (by unfold NL; omega) rfl ?_ (fun i hi hn => ?_)
  · have := lgb_g (Q := Q) (S := S.gvn (r * 5 + j)) (X := X) (r := r) hr
    rw [show (S.gvn (r * 5 + j)).R = S.R from rfl] at this
    rw [this]
    have e2 : upd (fun x => zb (S.gv (r * 5 + x))) j (vp_nar .boolean (nI 1)) = fun x => zb ((S.gvn (r * 5 + j)).gv (r * 5 + x)) := by
      rw [nar_1]
      refine upd_fn ?_ (fun x hx => ?_)
      · show zb (if r * 5 + j = r * 5 + j then true else S.gv (r * 5 + j)) = nI 1
        rw [if_pos rfl]
        rfl
      · show zb (if r * 5 + x = r * 5 + j then true else S.gv (r * 5 + x)) = zb (S.gv (r * 5 + x))
        rw [if_neg (by omega)]
    rw [e2]
    rfl
  · unfold lgb
    by_cases a : i = 0
    · rw [if_pos a, if_pos a]; rfl
    · rw [if_neg a, if_neg a]
      by_cases b : i = 1
      · rw [if_pos b, if_pos b]; rfl
      · rw [if_neg b, if_neg b, show (S.gvn (r * 5 + j)).R = S.R from rfl, show (S.gvn (r * 5 + j)).C = S.C from rfl]
        by_cases c : i < 2 + S.R
        · rw [if_pos c, if_pos c]; rfl
        · rw [if_neg c, if_neg c]
          by_cases d : i = 2 + S.R
          · rw [if_pos d, if_pos d]
          · rw [if_neg d, if_neg d]
            by_cases e : i < 3 + 2 * S.R
            · rw [if_pos e, if_pos e]
              rw [arr_congr fun x hx => show zb ((S.gvn (r * 5 + j)).gv ((i - 3 - S.R) * 5 + x)) = zb (S.gv ((i - 3 - S.R) * 5 + x)) by
                show zb (if (i - 3 - S.R) * 5 + x = r * 5 + j then true else S.gv ((i - 3 - S.R) * 5 + x)) = _
                rw [if_neg (by omega)]]
            · rw [if_neg e, if_neg e]; rfl
theorem lG_ban {s : Nat} (hr : r < S.R) (hj : j < S.C) (hs : s < S.C) (hC : S.C ≤ 5) (K : (Nat → Option z_C) → Prop) : z_aS (lgw f Q S X) (Q + (4 + 2 * S.R + r * (1 + S.C)) + 1 + j) z_tB (nI s) (nI 1) K = K (lgw f Q (S.bn (r * 5 + j) s) X) := by
  simp (disch := omega) only [z_aS, lg_b hr hj, z_tB, true_and, cI_ix, cI_cl, arr_upd]
  refine congrArg K ?_
  rw [show Q + (4 + 2 * S.R + r * (1 + S.C)) + 1 + j = Q + (4 + 2 * S.R + (r * (1 + S.C) + (1 + j))) by omega]
  refine lg_w (NL_in hr (by omega)) rfl ?_ (fun i hi hn => ?_)
  · have := lgb_b (Q := Q) (S := S.bn (r * 5 + j) s) (X := X) (r := r) (j := j) hj
    rw [show (S.bn (r * 5 + j) s).R = S.R from rfl, show (S.bn (r * 5 + j) s).C = S.C from rfl] at this
    rw [this]
    have e2 : upd (fun t => zb (S.b (r * 5 + j) t)) s (vp_nar .boolean (nI 1)) = fun t => zb ((S.bn (r * 5 + j) s).b (r * 5 + j) t) := by
      rw [nar_1]
      refine upd_fn ?_ (fun t ht => ?_)
      · show zb (if r * 5 + j = r * 5 + j then S.b (r * 5 + j) s || decide (s = s) else S.b (r * 5 + j) s) = nI 1
        rw [if_pos rfl, decide_eq_true rfl, Bool.or_true]
        rfl
      · show zb (if r * 5 + j = r * 5 + j then S.b (r * 5 + j) t || decide (t = s) else S.b (r * 5 + j) t) = zb (S.b (r * 5 + j) t)
        rw [if_pos rfl, decide_eq_false ht, Bool.or_false]
    rw [e2]
  · unfold lgb
    rw [show (S.bn (r * 5 + j) s).R = S.R from rfl, show (S.bn (r * 5 + j) s).C = S.C from rfl]
    by_cases a : i = 0
    · rw [if_pos a, if_pos a]; rfl
    · rw [if_neg a, if_neg a]
      by_cases b : i = 1
      · rw [if_pos b, if_pos b]
      · rw [if_neg b, if_neg b]
        by_cases c : i < 2 + S.R
        · rw [if_pos c, if_pos c]; rfl
        · rw [if_neg c, if_neg c]
          by_cases d : i = 2 + S.R
          · rw [if_pos d, if_pos d]
          · rw [if_neg d, if_neg d]
            by_cases e : i < 3 + 2 * S.R
            · rw [if_pos e, if_pos e]; rfl
            · rw [if_neg e, if_neg e]
              by_cases h : i = 3 + 2 * S.R
              · rw [if_pos h, if_pos h]
              · rw [if_neg h, if_neg h]
                by_cases k : (i - (4 + 2 * S.R)) % (1 + S.C) = 0
                · rw [if_pos k, if_pos k]
                · rw [if_neg k, if_neg k]
                  have dm := Nat.div_add_mod (i - (4 + 2 * S.R)) (1 + S.C)
                  rw [Nat.mul_comm] at dm
                  have lt : (i - (4 + 2 * S.R)) % (1 + S.C) < 1 + S.C := Nat.mod_lt _ (by omega)
                  have ne : ¬ (i - (4 + 2 * S.R)) / (1 + S.C) * 5 + ((i - (4 + 2 * S.R)) % (1 + S.C) - 1) = r * 5 + j := fun z => by
                    have z1 : (i - (4 + 2 * S.R)) / (1 + S.C) = r := by omega
                    rw [z1] at dm
                    omega
                  have e3 : (fun t => zb ((S.bn (r * 5 + j) s).b ((i - (4 + 2 * S.R)) / (1 + S.C) * 5 + ((i - (4 + 2 * S.R)) % (1 + S.C) - 1)) t)) = fun t => zb (S.b ((i - (4 + 2 * S.R)) / (1 + S.C) * 5 + ((i - (4 + 2 * S.R)) % (1 + S.C) - 1)) t) := funext fun t => by
                    show zb (if (i - (4 + 2 * S.R)) / (1 + S.C) * 5 + ((i - (4 + 2 * S.R)) % (1 + S.C) - 1) = r * 5 + j then _ else _) = _
                    rw [if_neg ne]
                  rw [e3]
theorem lG_pG (x : Nat) (K : (Nat → Option z_C) → Prop) : z_pF (lgw f Q S X) Q 10 3 (.int (nI x)) K = K (lgw f Q ⟨S.c, S.gv, S.b, S.R, S.C, x, S.N⟩ X) := by
  simp only [z_pF, lg_0, true_and]
  rw [← lg_fw f Q S X (S' := ⟨S.c, S.gv, S.b, S.R, S.C, x, S.N⟩) (X' := X) rfl rfl rfl rfl rfl]
  exact propext ⟨fun z => z.2, fun z => ⟨(by simp [lgf]), z⟩⟩
theorem lG_pN (x : Nat) (K : (Nat → Option z_C) → Prop) : z_pF (lgw f Q S X) Q 10 2 (.int (nI x)) K = K (lgw f Q ⟨S.c, S.gv, S.b, S.R, S.C, S.G, x⟩ X) := by
  simp only [z_pF, lg_0, true_and]
  rw [← lg_fw f Q S X (S' := ⟨S.c, S.gv, S.b, S.R, S.C, S.G, x⟩) (X' := X) rfl rfl rfl rfl rfl]
  exact propext ⟨fun z => z.2, fun z => ⟨(by simp [lgf]), z⟩⟩
end
theorem SBX.ag {D : Nat → Prop} {F F' : Nat → Option z_C} {N b n : Nat} {u : Nat → Nat} (h : SBX D F N b n u) (e : ∀ z, ¬ D z → z < N → F' z = F z) : SBX D F' N b n u := by
  obtain ⟨v, cap, h1, h2, h3, h4, h5, h6, h7, h8, h9, h10, h11, h12⟩ := h
  exact ⟨v, cap, (e b h9 h12).trans h1, (e v h8 h11).trans h2, h3, h4, h5, h6, h7, h8, h9, h10, h11, h12⟩
/-- what must not be touched while the text is written -/
def DD (b Q L z : Nat) : Prop := z < b ∨ (Q ≤ z ∧ z < Q + L)
theorem lw_len : (z_lit 3).length = 10 ∧ (z_lit 4).length = 6 ∧ (z_lit 5).length = 4 := by decide +kernel
section
variable {g : z_G} {d b : Nat} {D : Nat → Prop}
/-- a line's appends, one after another -/
theorem sb_line {F : Nat → Option z_C} {N x y n k L r c s : Nat} {u : Nat → Nat} (h : SBX D F N b n u) (hD : ∀ z, D z → z < N) (hd : 8 < d) (hk : k < 6) (hL : (z_lit k).length = L) (hn : n + L + 6 ≤ 240) (hr : r < 10) (hc : c < 10) (hs : s < 10) : ∃ F1 N1 x1 y1 F2 N2 x2 y2 F3 N3 x3 y3 F4 N4 x4 y4 F5 N5 x5 y5 F6 N6 x6 y6 F7 N7 x7 y7 u', SBX D F7 N7 b (n + L + 6) u' ∧ (∀ z, D z → F7 z = F z) ∧ N ≤ N7 ∧ x7 ≤ x + 7 ∧ y7 ≤ y + 3500 ∧ (∀ i, i < n → u' i = u i) ∧ (∀ i, i < L → u' (n + i) = lb k i) ∧ u' (n + L) = 48 + r ∧ u' (n + L + 1) = 32 ∧ u' (n + L + 2) = 48 + c ∧ u' (n + L + 3) = 32 ∧ u' (n + L + 4) = 48 + s ∧ u' (n + L + 5) = 59 ∧
    (∀ P : z_Res → Prop, z_Ca g d 130 [.ref b, .retAddr k] (F, some N, x, y) P = P (.inr (some (.ref b)), (F1, some N1, x1, y1))) ∧
    (∀ P : z_Res → Prop, z_Ca g d 132 [.ref b, .int (nI r)] (F1, some N1, x1, y1) P = P (.inr (some (.ref b)), (F2, some N2, x2, y2))) ∧
    (∀ P : z_Res → Prop, z_Ca g d 131 [.ref b, .int (nI 32)] (F2, some N2, x2, y2) P = P (.inr (some (.ref b)), (F3, some N3, x3, y3))) ∧
    (∀ P : z_Res → Prop, z_Ca g d 132 [.ref b, .int (nI c)] (F3, some N3, x3, y3) P = P (.inr (some (.ref b)), (F4, some N4, x4, y4))) ∧
    (∀ P : z_Res → Prop, z_Ca g d 131 [.ref b, .int (nI 32)] (F4, some N4, x4, y4) P = P (.inr (some (.ref b)), (F5, some N5, x5, y5))) ∧
    (∀ P : z_Res → Prop, z_Ca g d 132 [.ref b, .int (nI s)] (F5, some N5, x5, y5) P = P (.inr (some (.ref b)), (F6, some N6, x6, y6))) ∧
    (∀ P : z_Res → Prop, z_Ca g d 131 [.ref b, .int (nI 59)] (F6, some N6, x6, y6) P = P (.inr (some (.ref b)), (F7, some N7, x7, y7))) ∧ z_gO F b 12 ∧ z_gO F1 b 12 ∧ z_gO F2 b 12 ∧ z_gO F3 b 12 ∧ z_gO F4 b 12 ∧ z_gO F5 b 12 ∧ z_gO F6 b 12 := by
  have O : ∀ {F N n u}, SBX D F N b n u → z_gO F b 12 := fun h => by
    obtain ⟨v, cap, h1, -⟩ := h
    exact sb_O h1
  obtain ⟨F1, N1, x1, y1, a1, a2, a3, a4, a5, a6⟩ := sb_str (g := g) (d := d) (x := x) (y := y) h hD (by omega) (by omega) hk
  rw [hL] at a1
  obtain ⟨F2, N2, x2, y2, b1, b2, b3, b4, b5, b6⟩ := sb_dig (g := g) (d := d) (x := x1) (y := y1) a1 (fun z hz => by have := hD z hz; omega) (by omega) (by omega) hr
  obtain ⟨F3, N3, x3, y3, c1, c2, c3, c4, c5, c6⟩ := sb_chr (g := g) (d := d) (x := x2) (y := y2) (c := 32) b1 (fun z hz => by have := hD z hz; omega) (by omega) (by omega) (by omega)
  obtain ⟨F4, N4, x4, y4, d1, d2, d3, d4, d5, d6⟩ := sb_dig (g := g) (d := d) (x := x3) (y := y3) c1 (fun z hz => by have := hD z hz; omega) (by omega) (by omega) hc
  obtain ⟨F5, N5, x5, y5, e1, e2, e3, e4, e5, e6⟩ := sb_chr (g := g) (d := d) (x := x4) (y := y4) (c := 32) d1 (fun z hz => by have := hD z hz; omega) (by omega) (by omega) (by omega)
  obtain ⟨F6, N6, x6, y6, f1, f2, f3, f4, f5, f6⟩ := sb_dig (g := g) (d := d) (x := x5) (y := y5) e1 (fun z hz => by have := hD z hz; omega) (by omega) (by omega) hs
  obtain ⟨F7, N7, x7, y7, g1, g2, g3, g4, g5, g6⟩ := sb_chr (g := g) (d := d) (x := x6) (y := y6) (c := 59) f1 (fun z hz => by have := hD z hz; omega) (by omega) (by omega) (by omega)
  refine ⟨F1, N1, x1, y1, F2, N2, x2, y2, F3, N3, x3, y3, F4, N4, x4, y4, F5, N5, x5, y5, F6, N6, x6, y6, F7, N7, x7, y7, _, g1, fun z hz => by rw [g2 z hz, f2 z hz, e2 z hz, d2 z hz, c2 z hz, b2 z hz, a2 z hz], by omega, by omega, by omega, fun i hi => ?_, fun i hi => ?_, ?_, ?_, ?_, ?_, ?_, ?_, a6, b6, c6, d6, e6, f6, g6, O h, O a1, O b1, O c1, O d1, O e1, O f1⟩
  · rw [nu_n (by omega), nu_n (by omega), nu_n (by omega), nu_n (by omega), nu_n (by omega), nu_n (by omega)]
    unfold lu
    rw [if_neg (by omega)]
  · rw [nu_n (by omega), nu_n (by omega), nu_n (by omega), nu_n (by omega), nu_n (by omega), nu_n (by omega)]
    unfold lu
    rw [if_pos (by omega), show n + i - n = i by omega]
  · rw [nu_n (by omega), nu_n (by omega), nu_n (by omega), nu_n (by omega), nu_n (by omega), nu_s]
  · rw [nu_n (by omega), nu_n (by omega), nu_n (by omega), nu_n (by omega), nu_s]
  · rw [nu_n (by omega), nu_n (by omega), nu_n (by omega), show n + L + 2 = n + L + 1 + 1 by omega, nu_s]
  · rw [nu_n (by omega), nu_n (by omega), show n + L + 3 = n + L + 1 + 1 + 1 by omega, nu_s]
  · rw [nu_n (by omega), show n + L + 4 = n + L + 1 + 1 + 1 + 1 by omega, nu_s]
  · rw [show n + L + 5 = n + L + 1 + 1 + 1 + 1 + 1 by omega, nu_s]
end
