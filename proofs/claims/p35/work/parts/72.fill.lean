/-! rows exchanged, rows filled -/
theorem cU_swc {S : GS} (hg : GI S) {a b : Nat} (ha : a < 5) (hb : b < 5) (hab : a ≠ b) {Z : Nat → Bool} (j s : Nat) : cU (exn S.c a b Z S.C) j s = cU S.c j s := by
  have hC := hg.C5
  apply b_ext2
  rw [cU_iff, cU_iff]
  refine and_congr_right fun hj => ?_
  by_cases hz : j < S.C ∧ Z j = true
  · have va : exn S.c a b Z S.C (a * 5 + j) = S.c (b * 5 + j) := by rw [exn_a2 hz.1 hC, if_pos hz.2]
    have vb : exn S.c a b Z S.C (b * 5 + j) = S.c (a * 5 + j) := by rw [exn_b hz.1 hC hab, if_pos hz.2]
    have vo : ∀ r, r ≠ a → r ≠ b → exn S.c a b Z S.C (r * 5 + j) = S.c (r * 5 + j) := fun r h1 h2 => exn_o (by omega)
    constructor
    · rintro ⟨r, r1, r2⟩
      by_cases e1 : r = a
      · rw [e1, va] at r2; exact ⟨b, hb, r2⟩
      · by_cases e2 : r = b
        · rw [e2, vb] at r2; exact ⟨a, ha, r2⟩
        · rw [vo r e1 e2] at r2; exact ⟨r, r1, r2⟩
    · rintro ⟨r, r1, r2⟩
      by_cases e1 : r = a
      · exact ⟨b, hb, by rw [vb, ← e1]; exact r2⟩
      · by_cases e2 : r = b
        · exact ⟨a, ha, by rw [va, ← e2]; exact r2⟩
        · exact ⟨r, r1, by rw [vo r e1 e2]; exact r2⟩
  · have vo : ∀ r, exn S.c a b Z S.C (r * 5 + j) = S.c (r * 5 + j) := fun r => by
      unfold exn
      rw [show (r * 5 + j) % 5 = j by omega, if_neg (fun z => hz z.2), if_neg (fun z => hz z.2)]
    simp only [vo]
section
variable {g : z_G} {d : Nat} {f : Nat → Option z_C} {q : Option Nat × Nat × Nat} {P : z_Res → Prop} {B : Nat} {G : Nat → GS} {I : Nat → Int32} {A : Nat → Nat → Int32}
theorem y_exc (hg : GI (G 1)) {a b c : Nat} (ha : a < (G 1).R) (hb : b < (G 1).R) (hab : a ≠ b) (fa : (G 1).fl a = true) (fb : (G 1).fl b = true) (hc : c < (G 1).C) : z_Ca g d 12 [.ref (B + 27), .int (nI a), .int (nI b), .int (sS ((G 1).cyc a b c))] (xw f B G I A, q) P = P (.inr none, (xw f B (uG G 1 ((G 1).swc a b ((G 1).cyc a b c))) I A, q)) := by
  have hC := hg.C5
  have hR := hg.RC
  obtain ⟨gs, fa2, fb2, em⟩ := GI_swc hg ha hb hab fa fb hc
  have l := fun v => y_exc1 (g := g) (d := d) (f := xw f B G I A) (q := q) (P := P) (o := B + 1) (y := B + 27) (xw_27 f B G I A) (by omega) (c := (G 1).c) (a := a) (b := b) (C := (G 1).C) (Z := (G 1).cyc a b c) (by omega) (by omega) hab hC (V := fun k => zb ((G 1).gv k)) (Bn := fun k => sS ((G 1).b k)) (r := fun r => sS (rU (G 1).c r)) (cc := fun j => sS (cU (G 1).c j)) (R := nI (G 1).R) (F := nI (nF (G 1).c 25)) (Gv := nI (G 1).G) (N := nI (G 1).N) (G 1).C 0 v (Nat.zero_add _)
  have e0 : (fun k => ce (exn (G 1).c a b ((G 1).cyc a b c) 0 k)) = fun k => ce ((G 1).c k) := by
    funext k
    unfold exn
    rw [if_neg (by omega), if_neg (by omega)]
  rw [e0] at l
  have es : gw (xw f B G I A) (B + 1) ⟨fun k => ce ((G 1).c k), fun k => zb ((G 1).gv k), fun k => sS ((G 1).b k), fun r => sS (rU (G 1).c r), fun j => sS (cU (G 1).c j), nI (G 1).R, nI (G 1).C, nI (nF (G 1).c 25), nI (G 1).G, nI (G 1).N⟩ = xw f B G I A := xj_1 f B G I A
  have ee : gw (xw f B G I A) (B + 1) ⟨fun k => ce (exn (G 1).c a b ((G 1).cyc a b c) (G 1).C k), fun k => zb ((G 1).gv k), fun k => sS ((G 1).b k), fun r => sS (rU (G 1).c r), fun j => sS (cU (G 1).c j), nI (G 1).R, nI (G 1).C, nI (nF (G 1).c 25), nI (G 1).G, nI (G 1).N⟩ = xw f B (uG G 1 ((G 1).swc a b ((G 1).cyc a b c))) I A := by
    rw [← xk_1]
    refine gw_congr _ _ (fun k _ => rfl) (fun k _ => rfl) (fun k _ => rfl) (fun r hr => ?_) (fun j hj => ?_) ⟨rfl, rfl, ?_, rfl, rfl⟩
    · refine sS_congr fun s hs => ?_
      show rU (G 1).c r s = rU (exn (G 1).c a b ((G 1).cyc a b c) (G 1).C) r s
      by_cases e1 : r = a
      · rw [e1, (fl_rU hg (by omega)).mp fa s hs]
        exact ((fl_rU gs (by omega)).mp fa2 s hs).symm
      · by_cases e2 : r = b
        · rw [e2, (fl_rU hg (by omega)).mp fb s hs]
          exact ((fl_rU gs (by omega)).mp fb2 s hs).symm
        · have : ∀ i, i < 5 → exn (G 1).c a b ((G 1).cyc a b c) (G 1).C (r * 5 + i) = (G 1).c (r * 5 + i) := fun i hi => exn_o (by omega)
          apply b_ext2
          rw [rU_iff, rU_iff]
          constructor
          · rintro ⟨i, i1, i2⟩
            exact ⟨i, i1, by rw [this i i1]; exact i2⟩
          · rintro ⟨i, i1, i2⟩
            exact ⟨i, i1, by rw [← this i i1]; exact i2⟩
    · refine sS_congr fun s hs => ?_
      exact (cU_swc hg (by omega) (by omega) hab j s).symm
    · show nI (nF (G 1).c 25) = nI (nF (exn (G 1).c a b ((G 1).cyc a b c) (G 1).C) 25)
      rw [nF_iff 25 (fun k hk => (em k hk).symm)]
      rfl
  rw [es, ee] at l
  rw [zn_12]
  simp (disch := omega) only [ze_12_0, ze_12_1, ze_12_5, ze_12_6, ze_12_9, ze_12_12, ze_12_15, ze_12_16, ze_12_18, ze_12_19, ze_12_20, ze_12_21, ze_12_24, ze_12_25, ze_12_28, ze_12_31, ze_12_32, ze_12_33, ze_12_34, ze_12_36, ze_12_37, ze_12_38, ze_12_40, ze_12_41, ze_12_44, ze_12_47, ze_12_48, ze_12_49, ze_12_50, ze_12_52, ze_12_53, ze_12_54, ze_12_57, ze_12_60, ze_12_61, ze_12_62, ze_12_63, ze_12_65, ze_12_66, ze_12_67, ze_12_68, ze_12_69, ze_12_72, ze_12_75, ze_12_76, ze_12_77, ze_12_78, ze_12_80, ze_12_81, ze_12_83, ze_12_84, ze_12_87, ze_12_90, z_k_r, z_push_s, z_push_n, okS_0, okS_I, okS_R, okS_A, List.getElem?_cons_zero, List.getElem?_cons_succ, List.length_cons, List.length_nil, List.set_cons_zero, List.set_cons_succ, true_and, and_true, z_tI, z_tB, pk_mul, nI_add, cI_cl, cI_ix, nar_0, nar_1, nar_b, Nat.reduceAdd, Nat.reduceLT, Nat.reduceMul]
  exact l _
end
/-- a plan of a row's empty cells from a column on -/
def GS.pl (S : GS) (r : Nat) : Nat → Nat → (Nat → Bool) → Option (Nat → Nat)
  | 0, _, _ => some (fun _ => 0)
  | k + 1, j, p => if S.c (r * 5 + j) = 5 then fsO (fun s => if (S.cd r j s && !p s) = true then (match S.pl r k (j + 1) (ad p s) with | some F => some (nu F j s) | none => none) else none) 0 S.C else S.pl r k (j + 1) p
/-- the row filled by a plan -/
def GS.pF (S : GS) (r : Nat) (F : Nat → Nat) : Nat → Nat → GS
  | 0, _ => S
  | k + 1, j => if S.c (r * 5 + j) = 5 then (S.put r j (F j)).pF r F k (j + 1) else S.pF r F k (j + 1)
/-- the row filled, step by step -/
def GS.fR (S : GS) (r : Nat) : Nat → Nat → Option GS
  | 0, _ => some S
  | k + 1, j => if S.c (r * 5 + j) = 5 then fsO (fun s => if S.cd r j s = true then (S.put r j s).fR r k (j + 1) else none) 0 S.C else S.fR r k (j + 1)
theorem pF_congr {r : Nat} {F F' : Nat → Nat} : ∀ (k j : Nat) (S : GS), (∀ i, j ≤ i → F i = F' i) → S.pF r F k j = S.pF r F' k j
  | 0, _, _, _ => rfl
  | k + 1, j, S, h => by
    unfold GS.pF
    rw [h j (Nat.le_refl _), pF_congr k (j + 1) _ (fun i hi => h i (by omega)), pF_congr k (j + 1) S (fun i hi => h i (by omega))]
theorem fsO_map {α β : Type} {F : Nat → Option α} {F' : Nat → Option β} (h : α → β) : ∀ (k i : Nat), (∀ s, i ≤ s → s < i + k → F' s = (F s).map h) → fsO F' i k = (fsO F i k).map h
  | 0, _, _ => rfl
  | k + 1, i, e => by
    have e0 := e i (Nat.le_refl _) (by omega)
    cases z : F i with
    | none =>
      rw [z] at e0
      rw [fsO_n z, fsO_n e0, fsO_map h k (i + 1) (fun s a b => e s (by omega) (by omega))]
    | some x =>
      rw [z] at e0
      rw [fsO_s z, fsO_s e0]
      rfl
/-- how the cells' state runs beside the plan -/
def PR (S T : GS) (r j : Nat) (p : Nat → Bool) : Prop := T.C = S.C ∧ (∀ i, j ≤ i → i < 5 → T.c (r * 5 + i) = S.c (r * 5 + i)) ∧ (∀ i s, j ≤ i → i < 5 → S.c (r * 5 + i) = 5 → s < 5 → T.cd r i s = (S.cd r i s && !p s))
theorem PR_put {S T : GS} (hC : S.C ≤ 5) {r j s : Nat} {p : Nat → Bool} (h : PR S T r j p) (hr : r < 5) (hj : j < 5) (he : T.c (r * 5 + j) = 5) (hs : s < 5) : PR S (T.put r j s) r (j + 1) (ad p s) := by
  obtain ⟨h1, h2, h3⟩ := h
  have cc : (T.put r j s).c = nu T.c (r * 5 + j) s := rfl
  refine ⟨h1, fun i a b => ?_, fun i t a b c d => ?_⟩
  · rw [cc, nu_n (by omega)]
    exact h2 i (by omega) b
  · have e0 := h3 i t (by omega) b c d
    have tc : T.c (r * 5 + i) = 5 := by rw [h2 i (by omega) b]; exact c
    have k1 : (T.put r j s).cd r i t = cdk T.C T.b (nu T.c (r * 5 + j) s) (r * 5 + i) t := (cdk_cd (T := T.put r j s) b).symm
    by_cases tC : t < T.C
    · have hCT : T.C ≤ 5 := by rw [h1]; exact hC
      have := cdk_nu hCT (b := T.b) (c := T.c) (i := r * 5 + j) (q := r * 5 + i) (s := s) (t := t) (by omega) (by omega) (by omega) he tC
      rw [k1, this, cdk_cd b, e0, decide_eq_true (show (r * 5 + i) / 5 = (r * 5 + j) / 5 by omega), decide_eq_false (show ¬ (r * 5 + i) % 5 = (r * 5 + j) % 5 by omega)]
      unfold ad
      cases S.cd r i t <;> cases p t <;> cases decide (t = s) <;> rfl
    · have z1 : (T.put r j s).cd r i t = false := by
        cases z : (T.put r j s).cd r i t
        · rfl
        · exact absurd (cd_lt z) tC
      have z2 : S.cd r i t = false := by
        cases z : S.cd r i t
        · rfl
        · have := cd_lt z; omega
      rw [z1, z2]
      rfl
theorem fR_pl {S : GS} (hC : S.C ≤ 5) {r : Nat} (hr : r < 5) : ∀ (k j : Nat) (p : Nat → Bool) (T : GS), j + k = S.C → PR S T r j p → T.fR r k j = (S.pl r k j p).map (fun F => T.pF r F k j)
  | 0, _, _, _, _, _ => rfl
  | k + 1, j, p, T, h, hp => by
    obtain ⟨h1, h2, h3⟩ := hp
    have e1 := h2 j (Nat.le_refl _) (by omega)
    unfold GS.fR GS.pl GS.pF
    by_cases e : S.c (r * 5 + j) = 5
    · have eT : T.c (r * 5 + j) = 5 := by rw [e1]; exact e
      rw [if_pos e, if_pos eT, h1]
      simp only [if_pos eT]
      refine fsO_map _ S.C 0 fun s _ hs => ?_
      rw [h3 j s (Nat.le_refl _) (by omega) e (by omega)]
      by_cases z : (S.cd r j s && !p s) = true
      · rw [if_pos z, if_pos z, fR_pl hC hr k (j + 1) (ad p s) (T.put r j s) (by omega) (PR_put hC ⟨h1, h2, h3⟩ hr (by omega) eT (by omega))]
        cases S.pl r k (j + 1) (ad p s) with
        | none => rfl
        | some F =>
          show some ((T.put r j s).pF r F k (j + 1)) = some ((T.put r j (nu F j s j)).pF r (nu F j s) k (j + 1))
          rw [nu_s, pF_congr k (j + 1) (T.put r j s) (F := F) (F' := nu F j s) (fun i hi => (nu_n (by omega)).symm)]
      · rw [if_neg z, if_neg z]
        rfl
    · have eT : ¬ T.c (r * 5 + j) = 5 := by rw [e1]; exact e
      rw [if_neg e, if_neg eT]
      simp only [if_neg eT]
      exact fR_pl hC hr k (j + 1) p T (by omega) ⟨h1, fun i a b => h2 i (by omega) b, fun i s a => h3 i s (by omega)⟩
theorem fR_GI {r : Nat} : ∀ (k j : Nat) (S T : GS), GI S → r < S.R → j + k = S.C → S.fR r k j = some T → GI T ∧ T.R = S.R ∧ T.C = S.C ∧ T.gv = S.gv ∧ T.b = S.b ∧ T.G = S.G ∧ T.N = S.N
  | 0, j, S, T, hg, hr, h, e => by
    unfold GS.fR at e
    cases e
    exact ⟨hg, rfl, rfl, rfl, rfl, rfl, rfl⟩
  | k + 1, j, S, T, hg, hr, h, e => by
    unfold GS.fR at e
    split at e
    · obtain ⟨s, s1, s2, s3⟩ := fsO_ex _ _ e
      split at s3
      · next z => exact fR_GI k (j + 1) (S.put r j s) T (GI_put hg hr (by omega) z) hr (show j + 1 + k = S.C by omega) s3
      · cases s3
    · exact fR_GI k (j + 1) S T hg hr (by omega) e
section
variable {g : z_G} {d : Nat} {f : Nat → Option z_C} {q : Option Nat × Nat × Nat} {P : z_Res → Prop} {B : Nat} {G : Nat → GS} {I : Nat → Int32} {A : Nat → Nat → Int32}
def oS (o : Option (Nat → Nat)) : Bool := match o with
  | some _ => true
  | none => false
/-- what a plan's array holds -/
def plA (S : GS) (r j : Nat) (o : Option (Nat → Nat)) (F0 F : Nat → Int32) : Prop := (∀ i, i < j → F i = F0 i) ∧ (∀ Q, o = some Q → ∀ i, j ≤ i → i < S.C → S.c (r * 5 + i) = 5 → F i = nI (Q i) ∧ Q i < S.C)
theorem c_plan (hg : GI (G 1)) {r : Nat} (hr : r < 5) : ∀ (k d j : Nat) (p : Nat → Bool) (A : Nat → Nat → Int32), j + k = (G 1).C → k + 2 < d → ∃ F, plA (G 1) r j ((G 1).pl r k j p) (A 46) F ∧ ∀ (q : Option Nat × Nat × Nat) (P : z_Res → Prop), z_Ca g d 93 [.ref (B + 1), .int (nI r), .int (nI j), .int (sS p), .ref (B + 46)] (xw f B G I A, q) P = P (.inr (some (.int (zb (oS ((G 1).pl r k j p))))), (xw f B G I (uA A 46 F), q))
  | 0, d, j, p, A, h, hd => by
    have hC := hg.C5
    have : j = (G 1).C := by omega
    subst this
    refine ⟨A 46, ⟨fun _ _ => rfl, fun Q _ i a b => by omega⟩, fun q P => ?_⟩
    rw [uA_id, zn_93]
    simp (disch := omega) only [ze_93_0, ze_93_1, ze_93_2, ze_93_5, ze_93_8, ze_93_9, ze_93_10, ze_93_11, ze_93_14, ze_93_15, ze_93_16, ze_93_17, ze_93_18, ze_93_19, ze_93_20, ze_93_21, ze_93_24, ze_93_25, ze_93_26, ze_93_27, ze_93_28, ze_93_29, ze_93_30, ze_93_32, ze_93_35, ze_93_36, ze_93_37, ze_93_38, ze_93_39, ze_93_42, ze_93_43, ze_93_44, ze_93_45, ze_93_46, ze_93_48, ze_93_49, ze_93_53, ze_93_54, ze_93_57, ze_93_60, ze_93_62, ze_93_64, ze_93_65, ze_93_66, ze_93_67, ze_93_70, ze_93_72, ze_93_73, ze_93_75, ze_93_76, ze_93_77, ze_93_78, ze_93_79, ze_93_80, ze_93_81, ze_93_82, ze_93_83, ze_93_85, ze_93_86, ze_93_87, ze_93_89, ze_93_92, ze_93_95, ze_93_96, ze_93_97, ze_93_100, ze_93_103, ze_93_104, z_k_r, z_push_s, z_push_n, okS_0, okS_I, okS_R, okS_A, List.getElem?_cons_zero, List.getElem?_cons_succ, List.length_cons, List.length_nil, List.set_cons_zero, List.set_cons_succ, true_and, and_true, z_tI, z_tB, pk_mul, nI_add, cI_cl, cI_ix, nar_0, nar_1, nar_b, Nat.reduceAdd, Nat.reduceLT, Nat.reduceMul, ↓xr_0_0, ↓xr_0_1, ↓xr_0_2, ↓xr_0_3, ↓xr_0_4, ↓xr_0_5, ↓xr_0_6, ↓xr_0_7, ↓xr_0_8, ↓xr_0_9, ↓xg_14, xp_14, xo_0, ↓xr_7_0, ↓xg_0, xp_0, ↓xg_1, xp_1, ↓xg_2, xp_2, ↓xg_3, xp_3, ↓xg_4, xp_4, ↓xg_5, xp_5, xo_7, ↓xr_9_0, ↓xr_9_1, ↓xg_6, xp_6, ↓xg_7, xp_7, xo_9, ↓xr_16_0, xo_16, ↓xr_17_0, ↓xr_17_1, ↓xr_17_2, ↓xg_8, xp_8, xo_17, ↓xr_25_0, ↓xr_25_1, ↓xg_9, xp_9, ↓xg_10, xp_10, xo_25, ↓xr_27_0, ↓xr_27_1, ↓xg_11, xp_11, xo_27, ↓xr_29_0, ↓xg_12, xp_12, ↓xg_13, xp_13, xo_29, ↓xr_41_0, ↓xr_41_1, xo_41, xL_8, xS_8, xL_24, xS_24, xL_26, xS_26, xL_28, xS_28, xL_31, xS_31, xL_32, xS_32, xL_33, xS_33, xL_34, xS_34, xL_35, xS_35, xL_36, xS_36, xL_37, xS_37, xL_38, xS_38, xL_39, xS_39, xL_40, xS_40, xL_43, xS_43, xL_44, xS_44, xL_45, xS_45, xL_46, xS_46, xq_30, xq_42, ↓xr_1_0, ↓xr_1_1, ↓xr_1_2, ↓xr_1_3, ↓xr_1_4, ↓xh_1_0, ↓xh_1_1, ↓xh_1_2, ↓xh_1_3, ↓xh_1_4, xo_1, xL_2, xL_3, xL_4, xL_5, xL_6, ↓xr_10_0, ↓xr_10_1, ↓xr_10_2, ↓xr_10_3, ↓xr_10_4, ↓xh_10_0, ↓xh_10_1, ↓xh_10_2, ↓xh_10_3, ↓xh_10_4, xo_10, xL_11, xL_12, xL_13, xL_14, xL_15, ↓xr_18_0, ↓xr_18_1, ↓xr_18_2, ↓xr_18_3, ↓xr_18_4, ↓xh_18_0, ↓xh_18_1, ↓xh_18_2, ↓xh_18_3, ↓xh_18_4, xo_18, xL_19, xL_20, xL_21, xL_22, xL_23, uA_s, uA_n, uG_s, uG_n, ne_eq, Nat.reduceEqDiff, not_false_eq_true, cI_lt, cI_eq, ↓reduceIte, if_true, if_false, Nat.lt_irrefl, eq_self, Nat.reduceEqDiff, or_true, true_or, or_false, false_or, not_false_eq_true, not_true_eq_false, ce_5, zb_t, zb_f]
    rfl
  | k + 1, d, j, p, A, h, hd => by
    have hC := hg.C5
    have hj : j < (G 1).C := by omega
    have hd0 : 0 < d := by omega
    have e5 := ce_em (hg.c5 (r * 5 + j))
    by_cases e : (G 1).c (r * 5 + j) = 5
    · have loop : ∀ (n s : Nat) (A : Nat → Nat → Int32), s + n = (G 1).C → ∃ F, plA (G 1) r j (fsO (fun s => if ((G 1).cd r j s && !p s) = true then (match (G 1).pl r k (j + 1) (ad p s) with | some F => some (nu F j s) | none => none) else none) s n) (A 46) F ∧ ∀ (q : Option Nat × Nat × Nat) (P : z_Res → Prop), z_T g d 93 51 [.ref (B + 1), .int (nI r), .int (nI j), .int (sS p), .ref (B + 46), .int (sS fun s => (G 1).cd r j s && !p s), .int (nI s)] [] (xw f B G I A, q) P = P (.inr (some (.int (zb (oS (fsO (fun s => if ((G 1).cd r j s && !p s) = true then (match (G 1).pl r k (j + 1) (ad p s) with | some F => some (nu F j s) | none => none) else none) s n))))), (xw f B G I (uA A 46 F), q)) := by
        intro n
        induction n with
        | zero =>
          intro s A hs
          have : s = (G 1).C := by omega
          subst this
          refine ⟨A 46, ⟨fun _ _ => rfl, fun Q z => by cases z⟩, fun q P => ?_⟩
          rw [uA_id, ze_93_51]
          simp (disch := omega) only [ze_93_0, ze_93_1, ze_93_2, ze_93_5, ze_93_8, ze_93_9, ze_93_10, ze_93_11, ze_93_14, ze_93_15, ze_93_16, ze_93_17, ze_93_18, ze_93_19, ze_93_20, ze_93_21, ze_93_24, ze_93_25, ze_93_26, ze_93_27, ze_93_28, ze_93_29, ze_93_30, ze_93_32, ze_93_35, ze_93_36, ze_93_37, ze_93_38, ze_93_39, ze_93_42, ze_93_43, ze_93_44, ze_93_45, ze_93_46, ze_93_48, ze_93_49, ze_93_53, ze_93_54, ze_93_57, ze_93_60, ze_93_62, ze_93_64, ze_93_65, ze_93_66, ze_93_67, ze_93_70, ze_93_72, ze_93_73, ze_93_75, ze_93_76, ze_93_77, ze_93_78, ze_93_79, ze_93_80, ze_93_81, ze_93_82, ze_93_83, ze_93_85, ze_93_86, ze_93_87, ze_93_89, ze_93_92, ze_93_95, ze_93_96, ze_93_97, ze_93_100, ze_93_103, ze_93_104, z_k_r, z_push_s, z_push_n, okS_0, okS_I, okS_R, okS_A, List.getElem?_cons_zero, List.getElem?_cons_succ, List.length_cons, List.length_nil, List.set_cons_zero, List.set_cons_succ, true_and, and_true, z_tI, z_tB, pk_mul, nI_add, cI_cl, cI_ix, nar_0, nar_1, nar_b, Nat.reduceAdd, Nat.reduceLT, Nat.reduceMul, ↓xr_0_0, ↓xr_0_1, ↓xr_0_2, ↓xr_0_3, ↓xr_0_4, ↓xr_0_5, ↓xr_0_6, ↓xr_0_7, ↓xr_0_8, ↓xr_0_9, ↓xg_14, xp_14, xo_0, ↓xr_7_0, ↓xg_0, xp_0, ↓xg_1, xp_1, ↓xg_2, xp_2, ↓xg_3, xp_3, ↓xg_4, xp_4, ↓xg_5, xp_5, xo_7, ↓xr_9_0, ↓xr_9_1, ↓xg_6, xp_6, ↓xg_7, xp_7, xo_9, ↓xr_16_0, xo_16, ↓xr_17_0, ↓xr_17_1, ↓xr_17_2, ↓xg_8, xp_8, xo_17, ↓xr_25_0, ↓xr_25_1, ↓xg_9, xp_9, ↓xg_10, xp_10, xo_25, ↓xr_27_0, ↓xr_27_1, ↓xg_11, xp_11, xo_27, ↓xr_29_0, ↓xg_12, xp_12, ↓xg_13, xp_13, xo_29, ↓xr_41_0, ↓xr_41_1, xo_41, xL_8, xS_8, xL_24, xS_24, xL_26, xS_26, xL_28, xS_28, xL_31, xS_31, xL_32, xS_32, xL_33, xS_33, xL_34, xS_34, xL_35, xS_35, xL_36, xS_36, xL_37, xS_37, xL_38, xS_38, xL_39, xS_39, xL_40, xS_40, xL_43, xS_43, xL_44, xS_44, xL_45, xS_45, xL_46, xS_46, xq_30, xq_42, ↓xr_1_0, ↓xr_1_1, ↓xr_1_2, ↓xr_1_3, ↓xr_1_4, ↓xh_1_0, ↓xh_1_1, ↓xh_1_2, ↓xh_1_3, ↓xh_1_4, xo_1, xL_2, xL_3, xL_4, xL_5, xL_6, ↓xr_10_0, ↓xr_10_1, ↓xr_10_2, ↓xr_10_3, ↓xr_10_4, ↓xh_10_0, ↓xh_10_1, ↓xh_10_2, ↓xh_10_3, ↓xh_10_4, xo_10, xL_11, xL_12, xL_13, xL_14, xL_15, ↓xr_18_0, ↓xr_18_1, ↓xr_18_2, ↓xr_18_3, ↓xr_18_4, ↓xh_18_0, ↓xh_18_1, ↓xh_18_2, ↓xh_18_3, ↓xh_18_4, xo_18, xL_19, xL_20, xL_21, xL_22, xL_23, uA_s, uA_n, uG_s, uG_n, ne_eq, Nat.reduceEqDiff, not_false_eq_true, cI_lt, cI_eq, ↓reduceIte, if_true, if_false, Nat.lt_irrefl, eq_self, Nat.reduceEqDiff, or_true, true_or, or_false, false_or, not_false_eq_true, not_true_eq_false, ce_5, zb_t, zb_f]
          rfl
        | succ n ih =>
          intro s A hs
          have s5 : s < (G 1).C := by omega
          by_cases z : ((G 1).cd r j s && !p s) = true
          · obtain ⟨F1, ⟨a1, a2⟩, a3⟩ := c_plan hg hr k (d - 1) (j + 1) (ad p s) (uA A 46 (upd (A 46) j (nI s))) (by omega) (by omega)
            simp only [uA_uA] at a3
            rw [uA_s] at a1
            unfold ad at a3
            cases o : (G 1).pl r k (j + 1) (ad p s) with
            | some Q =>
              have fo : fsO (fun s => if ((G 1).cd r j s && !p s) = true then (match (G 1).pl r k (j + 1) (ad p s) with | some F => some (nu F j s) | none => none) else none) s (n + 1) = some (nu Q j s) := fsO_s (by rw [if_pos z, o])
              refine ⟨F1, ⟨fun i hi => by rw [a1 i (by omega), upd_ne (by omega)], fun Q' hQ i b1 b2 b3 => ?_⟩, fun q P => ?_⟩
              · rw [fo] at hQ
                cases hQ
                by_cases e2 : i = j
                · rw [e2, a1 j (by omega), upd_at, nu_s]
                  exact ⟨rfl, s5⟩
                · rw [nu_n e2]
                  exact a2 Q o i (by omega) b2 b3
              · rw [fo, ze_93_51]
                unfold ad at o
                rw [o] at a3
                simp (disch := omega) only [ze_93_0, ze_93_1, ze_93_2, ze_93_5, ze_93_8, ze_93_9, ze_93_10, ze_93_11, ze_93_14, ze_93_15, ze_93_16, ze_93_17, ze_93_18, ze_93_19, ze_93_20, ze_93_21, ze_93_24, ze_93_25, ze_93_26, ze_93_27, ze_93_28, ze_93_29, ze_93_30, ze_93_32, ze_93_35, ze_93_36, ze_93_37, ze_93_38, ze_93_39, ze_93_42, ze_93_43, ze_93_44, ze_93_45, ze_93_46, ze_93_48, ze_93_49, ze_93_53, ze_93_54, ze_93_57, ze_93_60, ze_93_62, ze_93_64, ze_93_65, ze_93_66, ze_93_67, ze_93_70, ze_93_72, ze_93_73, ze_93_75, ze_93_76, ze_93_77, ze_93_78, ze_93_79, ze_93_80, ze_93_81, ze_93_82, ze_93_83, ze_93_85, ze_93_86, ze_93_87, ze_93_89, ze_93_92, ze_93_95, ze_93_96, ze_93_97, ze_93_100, ze_93_103, ze_93_104, z_k_r, z_push_s, z_push_n, okS_0, okS_I, okS_R, okS_A, List.getElem?_cons_zero, List.getElem?_cons_succ, List.length_cons, List.length_nil, List.set_cons_zero, List.set_cons_succ, true_and, and_true, z_tI, z_tB, pk_mul, nI_add, cI_cl, cI_ix, nar_0, nar_1, nar_b, Nat.reduceAdd, Nat.reduceLT, Nat.reduceMul, ↓xr_0_0, ↓xr_0_1, ↓xr_0_2, ↓xr_0_3, ↓xr_0_4, ↓xr_0_5, ↓xr_0_6, ↓xr_0_7, ↓xr_0_8, ↓xr_0_9, ↓xg_14, xp_14, xo_0, ↓xr_7_0, ↓xg_0, xp_0, ↓xg_1, xp_1, ↓xg_2, xp_2, ↓xg_3, xp_3, ↓xg_4, xp_4, ↓xg_5, xp_5, xo_7, ↓xr_9_0, ↓xr_9_1, ↓xg_6, xp_6, ↓xg_7, xp_7, xo_9, ↓xr_16_0, xo_16, ↓xr_17_0, ↓xr_17_1, ↓xr_17_2, ↓xg_8, xp_8, xo_17, ↓xr_25_0, ↓xr_25_1, ↓xg_9, xp_9, ↓xg_10, xp_10, xo_25, ↓xr_27_0, ↓xr_27_1, ↓xg_11, xp_11, xo_27, ↓xr_29_0, ↓xg_12, xp_12, ↓xg_13, xp_13, xo_29, ↓xr_41_0, ↓xr_41_1, xo_41, xL_8, xS_8, xL_24, xS_24, xL_26, xS_26, xL_28, xS_28, xL_31, xS_31, xL_32, xS_32, xL_33, xS_33, xL_34, xS_34, xL_35, xS_35, xL_36, xS_36, xL_37, xS_37, xL_38, xS_38, xL_39, xS_39, xL_40, xS_40, xL_43, xS_43, xL_44, xS_44, xL_45, xS_45, xL_46, xS_46, xq_30, xq_42, ↓xr_1_0, ↓xr_1_1, ↓xr_1_2, ↓xr_1_3, ↓xr_1_4, ↓xh_1_0, ↓xh_1_1, ↓xh_1_2, ↓xh_1_3, ↓xh_1_4, xo_1, xL_2, xL_3, xL_4, xL_5, xL_6, ↓xr_10_0, ↓xr_10_1, ↓xr_10_2, ↓xr_10_3, ↓xr_10_4, ↓xh_10_0, ↓xh_10_1, ↓xh_10_2, ↓xh_10_3, ↓xh_10_4, xo_10, xL_11, xL_12, xL_13, xL_14, xL_15, ↓xr_18_0, ↓xr_18_1, ↓xr_18_2, ↓xr_18_3, ↓xr_18_4, ↓xh_18_0, ↓xh_18_1, ↓xh_18_2, ↓xh_18_3, ↓xh_18_4, xo_18, xL_19, xL_20, xL_21, xL_22, xL_23, uA_s, uA_n, uG_s, uG_n, ne_eq, Nat.reduceEqDiff, not_false_eq_true, cI_lt, cI_eq, ↓reduceIte, if_true, if_false, Nat.lt_irrefl, eq_self, Nat.reduceEqDiff, or_true, true_or, or_false, false_or, not_false_eq_true, not_true_eq_false, ce_5, zb_t, zb_f, s5, sS_bit, zb_0, z, Bool.true_eq_false, sS_one, sS_or, hd0, a3, oS]
            | none =>
              obtain ⟨F2, ⟨b1, b2⟩, b3⟩ := ih (s + 1) (uA A 46 F1) (by omega)
              simp only [uA_uA] at b3
              rw [uA_s] at b1
              have fo : fsO (fun s => if ((G 1).cd r j s && !p s) = true then (match (G 1).pl r k (j + 1) (ad p s) with | some F => some (nu F j s) | none => none) else none) s (n + 1) = fsO (fun s => if ((G 1).cd r j s && !p s) = true then (match (G 1).pl r k (j + 1) (ad p s) with | some F => some (nu F j s) | none => none) else none) (s + 1) n := fsO_n (by rw [if_pos z, o])
              rw [fo]
              refine ⟨F2, ⟨fun i hi => by rw [b1 i hi, a1 i (by omega), upd_ne (by omega)], b2⟩, fun q P => ?_⟩
              rw [← b3 q P, ze_93_51]
              unfold ad at o
              rw [o] at a3
              simp (disch := omega) only [ze_93_0, ze_93_1, ze_93_2, ze_93_5, ze_93_8, ze_93_9, ze_93_10, ze_93_11, ze_93_14, ze_93_15, ze_93_16, ze_93_17, ze_93_18, ze_93_19, ze_93_20, ze_93_21, ze_93_24, ze_93_25, ze_93_26, ze_93_27, ze_93_28, ze_93_29, ze_93_30, ze_93_32, ze_93_35, ze_93_36, ze_93_37, ze_93_38, ze_93_39, ze_93_42, ze_93_43, ze_93_44, ze_93_45, ze_93_46, ze_93_48, ze_93_49, ze_93_53, ze_93_54, ze_93_57, ze_93_60, ze_93_62, ze_93_64, ze_93_65, ze_93_66, ze_93_67, ze_93_70, ze_93_72, ze_93_73, ze_93_75, ze_93_76, ze_93_77, ze_93_78, ze_93_79, ze_93_80, ze_93_81, ze_93_82, ze_93_83, ze_93_85, ze_93_86, ze_93_87, ze_93_89, ze_93_92, ze_93_95, ze_93_96, ze_93_97, ze_93_100, ze_93_103, ze_93_104, z_k_r, z_push_s, z_push_n, okS_0, okS_I, okS_R, okS_A, List.getElem?_cons_zero, List.getElem?_cons_succ, List.length_cons, List.length_nil, List.set_cons_zero, List.set_cons_succ, true_and, and_true, z_tI, z_tB, pk_mul, nI_add, cI_cl, cI_ix, nar_0, nar_1, nar_b, Nat.reduceAdd, Nat.reduceLT, Nat.reduceMul, ↓xr_0_0, ↓xr_0_1, ↓xr_0_2, ↓xr_0_3, ↓xr_0_4, ↓xr_0_5, ↓xr_0_6, ↓xr_0_7, ↓xr_0_8, ↓xr_0_9, ↓xg_14, xp_14, xo_0, ↓xr_7_0, ↓xg_0, xp_0, ↓xg_1, xp_1, ↓xg_2, xp_2, ↓xg_3, xp_3, ↓xg_4, xp_4, ↓xg_5, xp_5, xo_7, ↓xr_9_0, ↓xr_9_1, ↓xg_6, xp_6, ↓xg_7, xp_7, xo_9, ↓xr_16_0, xo_16, ↓xr_17_0, ↓xr_17_1, ↓xr_17_2, ↓xg_8, xp_8, xo_17, ↓xr_25_0, ↓xr_25_1, ↓xg_9, xp_9, ↓xg_10, xp_10, xo_25, ↓xr_27_0, ↓xr_27_1, ↓xg_11, xp_11, xo_27, ↓xr_29_0, ↓xg_12, xp_12, ↓xg_13, xp_13, xo_29, ↓xr_41_0, ↓xr_41_1, xo_41, xL_8, xS_8, xL_24, xS_24, xL_26, xS_26, xL_28, xS_28, xL_31, xS_31, xL_32, xS_32, xL_33, xS_33, xL_34, xS_34, xL_35, xS_35, xL_36, xS_36, xL_37, xS_37, xL_38, xS_38, xL_39, xS_39, xL_40, xS_40, xL_43, xS_43, xL_44, xS_44, xL_45, xS_45, xL_46, xS_46, xq_30, xq_42, ↓xr_1_0, ↓xr_1_1, ↓xr_1_2, ↓xr_1_3, ↓xr_1_4, ↓xh_1_0, ↓xh_1_1, ↓xh_1_2, ↓xh_1_3, ↓xh_1_4, xo_1, xL_2, xL_3, xL_4, xL_5, xL_6, ↓xr_10_0, ↓xr_10_1, ↓xr_10_2, ↓xr_10_3, ↓xr_10_4, ↓xh_10_0, ↓xh_10_1, ↓xh_10_2, ↓xh_10_3, ↓xh_10_4, xo_10, xL_11, xL_12, xL_13, xL_14, xL_15, ↓xr_18_0, ↓xr_18_1, ↓xr_18_2, ↓xr_18_3, ↓xr_18_4, ↓xh_18_0, ↓xh_18_1, ↓xh_18_2, ↓xh_18_3, ↓xh_18_4, xo_18, xL_19, xL_20, xL_21, xL_22, xL_23, uA_s, uA_n, uG_s, uG_n, ne_eq, Nat.reduceEqDiff, not_false_eq_true, cI_lt, cI_eq, ↓reduceIte, if_true, if_false, Nat.lt_irrefl, eq_self, Nat.reduceEqDiff, or_true, true_or, or_false, false_or, not_false_eq_true, not_true_eq_false, ce_5, zb_t, zb_f, s5, sS_bit, zb_0, z, Bool.true_eq_false, sS_one, sS_or, hd0, a3, oS]
          · have z' : ((G 1).cd r j s && !p s) = false := by simpa using z
            obtain ⟨F2, b2, b3⟩ := ih (s + 1) A (by omega)
            have fo : fsO (fun s => if ((G 1).cd r j s && !p s) = true then (match (G 1).pl r k (j + 1) (ad p s) with | some F => some (nu F j s) | none => none) else none) s (n + 1) = fsO (fun s => if ((G 1).cd r j s && !p s) = true then (match (G 1).pl r k (j + 1) (ad p s) with | some F => some (nu F j s) | none => none) else none) (s + 1) n := fsO_n (by rw [if_neg z])
            rw [fo]
            refine ⟨F2, b2, fun q P => ?_⟩
            rw [← b3 q P, ze_93_51]
            simp (disch := omega) only [ze_93_0, ze_93_1, ze_93_2, ze_93_5, ze_93_8, ze_93_9, ze_93_10, ze_93_11, ze_93_14, ze_93_15, ze_93_16, ze_93_17, ze_93_18, ze_93_19, ze_93_20, ze_93_21, ze_93_24, ze_93_25, ze_93_26, ze_93_27, ze_93_28, ze_93_29, ze_93_30, ze_93_32, ze_93_35, ze_93_36, ze_93_37, ze_93_38, ze_93_39, ze_93_42, ze_93_43, ze_93_44, ze_93_45, ze_93_46, ze_93_48, ze_93_49, ze_93_53, ze_93_54, ze_93_57, ze_93_60, ze_93_62, ze_93_64, ze_93_65, ze_93_66, ze_93_67, ze_93_70, ze_93_72, ze_93_73, ze_93_75, ze_93_76, ze_93_77, ze_93_78, ze_93_79, ze_93_80, ze_93_81, ze_93_82, ze_93_83, ze_93_85, ze_93_86, ze_93_87, ze_93_89, ze_93_92, ze_93_95, ze_93_96, ze_93_97, ze_93_100, ze_93_103, ze_93_104, z_k_r, z_push_s, z_push_n, okS_0, okS_I, okS_R, okS_A, List.getElem?_cons_zero, List.getElem?_cons_succ, List.length_cons, List.length_nil, List.set_cons_zero, List.set_cons_succ, true_and, and_true, z_tI, z_tB, pk_mul, nI_add, cI_cl, cI_ix, nar_0, nar_1, nar_b, Nat.reduceAdd, Nat.reduceLT, Nat.reduceMul, ↓xr_0_0, ↓xr_0_1, ↓xr_0_2, ↓xr_0_3, ↓xr_0_4, ↓xr_0_5, ↓xr_0_6, ↓xr_0_7, ↓xr_0_8, ↓xr_0_9, ↓xg_14, xp_14, xo_0, ↓xr_7_0, ↓xg_0, xp_0, ↓xg_1, xp_1, ↓xg_2, xp_2, ↓xg_3, xp_3, ↓xg_4, xp_4, ↓xg_5, xp_5, xo_7, ↓xr_9_0, ↓xr_9_1, ↓xg_6, xp_6, ↓xg_7, xp_7, xo_9, ↓xr_16_0, xo_16, ↓xr_17_0, ↓xr_17_1, ↓xr_17_2, ↓xg_8, xp_8, xo_17, ↓xr_25_0, ↓xr_25_1, ↓xg_9, xp_9, ↓xg_10, xp_10, xo_25, ↓xr_27_0, ↓xr_27_1, ↓xg_11, xp_11, xo_27, ↓xr_29_0, ↓xg_12, xp_12, ↓xg_13, xp_13, xo_29, ↓xr_41_0, ↓xr_41_1, xo_41, xL_8, xS_8, xL_24, xS_24, xL_26, xS_26, xL_28, xS_28, xL_31, xS_31, xL_32, xS_32, xL_33, xS_33, xL_34, xS_34, xL_35, xS_35, xL_36, xS_36, xL_37, xS_37, xL_38, xS_38, xL_39, xS_39, xL_40, xS_40, xL_43, xS_43, xL_44, xS_44, xL_45, xS_45, xL_46, xS_46, xq_30, xq_42, ↓xr_1_0, ↓xr_1_1, ↓xr_1_2, ↓xr_1_3, ↓xr_1_4, ↓xh_1_0, ↓xh_1_1, ↓xh_1_2, ↓xh_1_3, ↓xh_1_4, xo_1, xL_2, xL_3, xL_4, xL_5, xL_6, ↓xr_10_0, ↓xr_10_1, ↓xr_10_2, ↓xr_10_3, ↓xr_10_4, ↓xh_10_0, ↓xh_10_1, ↓xh_10_2, ↓xh_10_3, ↓xh_10_4, xo_10, xL_11, xL_12, xL_13, xL_14, xL_15, ↓xr_18_0, ↓xr_18_1, ↓xr_18_2, ↓xr_18_3, ↓xr_18_4, ↓xh_18_0, ↓xh_18_1, ↓xh_18_2, ↓xh_18_3, ↓xh_18_4, xo_18, xL_19, xL_20, xL_21, xL_22, xL_23, uA_s, uA_n, uG_s, uG_n, ne_eq, Nat.reduceEqDiff, not_false_eq_true, cI_lt, cI_eq, ↓reduceIte, if_true, if_false, Nat.lt_irrefl, eq_self, Nat.reduceEqDiff, or_true, true_or, or_false, false_or, not_false_eq_true, not_true_eq_false, ce_5, zb_t, zb_f, s5, sS_bit, zb_0, z']
      obtain ⟨F, b1, b2⟩ := loop (G 1).C 0 A (by omega)
      unfold GS.pl
      rw [if_pos e]
      refine ⟨F, b1, fun q P => ?_⟩
      rw [← b2 q P, zn_93]
      simp (disch := omega) only [ze_93_0, ze_93_1, ze_93_2, ze_93_5, ze_93_8, ze_93_9, ze_93_10, ze_93_11, ze_93_14, ze_93_15, ze_93_16, ze_93_17, ze_93_18, ze_93_19, ze_93_20, ze_93_21, ze_93_24, ze_93_25, ze_93_26, ze_93_27, ze_93_28, ze_93_29, ze_93_30, ze_93_32, ze_93_35, ze_93_36, ze_93_37, ze_93_38, ze_93_39, ze_93_42, ze_93_43, ze_93_44, ze_93_45, ze_93_46, ze_93_48, ze_93_49, ze_93_53, ze_93_54, ze_93_57, ze_93_60, ze_93_62, ze_93_64, ze_93_65, ze_93_66, ze_93_67, ze_93_70, ze_93_72, ze_93_73, ze_93_75, ze_93_76, ze_93_77, ze_93_78, ze_93_79, ze_93_80, ze_93_81, ze_93_82, ze_93_83, ze_93_85, ze_93_86, ze_93_87, ze_93_89, ze_93_92, ze_93_95, ze_93_96, ze_93_97, ze_93_100, ze_93_103, ze_93_104, z_k_r, z_push_s, z_push_n, okS_0, okS_I, okS_R, okS_A, List.getElem?_cons_zero, List.getElem?_cons_succ, List.length_cons, List.length_nil, List.set_cons_zero, List.set_cons_succ, true_and, and_true, z_tI, z_tB, pk_mul, nI_add, cI_cl, cI_ix, nar_0, nar_1, nar_b, Nat.reduceAdd, Nat.reduceLT, Nat.reduceMul, ↓xr_0_0, ↓xr_0_1, ↓xr_0_2, ↓xr_0_3, ↓xr_0_4, ↓xr_0_5, ↓xr_0_6, ↓xr_0_7, ↓xr_0_8, ↓xr_0_9, ↓xg_14, xp_14, xo_0, ↓xr_7_0, ↓xg_0, xp_0, ↓xg_1, xp_1, ↓xg_2, xp_2, ↓xg_3, xp_3, ↓xg_4, xp_4, ↓xg_5, xp_5, xo_7, ↓xr_9_0, ↓xr_9_1, ↓xg_6, xp_6, ↓xg_7, xp_7, xo_9, ↓xr_16_0, xo_16, ↓xr_17_0, ↓xr_17_1, ↓xr_17_2, ↓xg_8, xp_8, xo_17, ↓xr_25_0, ↓xr_25_1, ↓xg_9, xp_9, ↓xg_10, xp_10, xo_25, ↓xr_27_0, ↓xr_27_1, ↓xg_11, xp_11, xo_27, ↓xr_29_0, ↓xg_12, xp_12, ↓xg_13, xp_13, xo_29, ↓xr_41_0, ↓xr_41_1, xo_41, xL_8, xS_8, xL_24, xS_24, xL_26, xS_26, xL_28, xS_28, xL_31, xS_31, xL_32, xS_32, xL_33, xS_33, xL_34, xS_34, xL_35, xS_35, xL_36, xS_36, xL_37, xS_37, xL_38, xS_38, xL_39, xS_39, xL_40, xS_40, xL_43, xS_43, xL_44, xS_44, xL_45, xS_45, xL_46, xS_46, xq_30, xq_42, ↓xr_1_0, ↓xr_1_1, ↓xr_1_2, ↓xr_1_3, ↓xr_1_4, ↓xh_1_0, ↓xh_1_1, ↓xh_1_2, ↓xh_1_3, ↓xh_1_4, xo_1, xL_2, xL_3, xL_4, xL_5, xL_6, ↓xr_10_0, ↓xr_10_1, ↓xr_10_2, ↓xr_10_3, ↓xr_10_4, ↓xh_10_0, ↓xh_10_1, ↓xh_10_2, ↓xh_10_3, ↓xh_10_4, xo_10, xL_11, xL_12, xL_13, xL_14, xL_15, ↓xr_18_0, ↓xr_18_1, ↓xr_18_2, ↓xr_18_3, ↓xr_18_4, ↓xh_18_0, ↓xh_18_1, ↓xh_18_2, ↓xh_18_3, ↓xh_18_4, xo_18, xL_19, xL_20, xL_21, xL_22, xL_23, uA_s, uA_n, uG_s, uG_n, ne_eq, Nat.reduceEqDiff, not_false_eq_true, cI_lt, cI_eq, ↓reduceIte, if_true, if_false, Nat.lt_irrefl, eq_self, Nat.reduceEqDiff, or_true, true_or, or_false, false_or, not_false_eq_true, not_true_eq_false, ce_5, zb_t, zb_f, hj, e5, e, hd0, x_cand hg.c5 hC, sS_andn]
    · obtain ⟨F, ⟨b1, b2⟩, b3⟩ := c_plan hg hr k (d - 1) (j + 1) p A (by omega) (by omega)
      unfold GS.pl
      rw [if_neg e]
      refine ⟨F, ⟨fun i hi => b1 i (by omega), fun Q hQ i a1 a2 a3 => b2 Q hQ i (by have : i ≠ j := (fun z => e (by rw [← z]; exact a3)); omega) a2 a3⟩, fun q P => ?_⟩
      rw [zn_93]
      simp (disch := omega) only [ze_93_0, ze_93_1, ze_93_2, ze_93_5, ze_93_8, ze_93_9, ze_93_10, ze_93_11, ze_93_14, ze_93_15, ze_93_16, ze_93_17, ze_93_18, ze_93_19, ze_93_20, ze_93_21, ze_93_24, ze_93_25, ze_93_26, ze_93_27, ze_93_28, ze_93_29, ze_93_30, ze_93_32, ze_93_35, ze_93_36, ze_93_37, ze_93_38, ze_93_39, ze_93_42, ze_93_43, ze_93_44, ze_93_45, ze_93_46, ze_93_48, ze_93_49, ze_93_53, ze_93_54, ze_93_57, ze_93_60, ze_93_62, ze_93_64, ze_93_65, ze_93_66, ze_93_67, ze_93_70, ze_93_72, ze_93_73, ze_93_75, ze_93_76, ze_93_77, ze_93_78, ze_93_79, ze_93_80, ze_93_81, ze_93_82, ze_93_83, ze_93_85, ze_93_86, ze_93_87, ze_93_89, ze_93_92, ze_93_95, ze_93_96, ze_93_97, ze_93_100, ze_93_103, ze_93_104, z_k_r, z_push_s, z_push_n, okS_0, okS_I, okS_R, okS_A, List.getElem?_cons_zero, List.getElem?_cons_succ, List.length_cons, List.length_nil, List.set_cons_zero, List.set_cons_succ, true_and, and_true, z_tI, z_tB, pk_mul, nI_add, cI_cl, cI_ix, nar_0, nar_1, nar_b, Nat.reduceAdd, Nat.reduceLT, Nat.reduceMul, ↓xr_0_0, ↓xr_0_1, ↓xr_0_2, ↓xr_0_3, ↓xr_0_4, ↓xr_0_5, ↓xr_0_6, ↓xr_0_7, ↓xr_0_8, ↓xr_0_9, ↓xg_14, xp_14, xo_0, ↓xr_7_0, ↓xg_0, xp_0, ↓xg_1, xp_1, ↓xg_2, xp_2, ↓xg_3, xp_3, ↓xg_4, xp_4, ↓xg_5, xp_5, xo_7, ↓xr_9_0, ↓xr_9_1, ↓xg_6, xp_6, ↓xg_7, xp_7, xo_9, ↓xr_16_0, xo_16, ↓xr_17_0, ↓xr_17_1, ↓xr_17_2, ↓xg_8, xp_8, xo_17, ↓xr_25_0, ↓xr_25_1, ↓xg_9, xp_9, ↓xg_10, xp_10, xo_25, ↓xr_27_0, ↓xr_27_1, ↓xg_11, xp_11, xo_27, ↓xr_29_0, ↓xg_12, xp_12, ↓xg_13, xp_13, xo_29, ↓xr_41_0, ↓xr_41_1, xo_41, xL_8, xS_8, xL_24, xS_24, xL_26, xS_26, xL_28, xS_28, xL_31, xS_31, xL_32, xS_32, xL_33, xS_33, xL_34, xS_34, xL_35, xS_35, xL_36, xS_36, xL_37, xS_37, xL_38, xS_38, xL_39, xS_39, xL_40, xS_40, xL_43, xS_43, xL_44, xS_44, xL_45, xS_45, xL_46, xS_46, xq_30, xq_42, ↓xr_1_0, ↓xr_1_1, ↓xr_1_2, ↓xr_1_3, ↓xr_1_4, ↓xh_1_0, ↓xh_1_1, ↓xh_1_2, ↓xh_1_3, ↓xh_1_4, xo_1, xL_2, xL_3, xL_4, xL_5, xL_6, ↓xr_10_0, ↓xr_10_1, ↓xr_10_2, ↓xr_10_3, ↓xr_10_4, ↓xh_10_0, ↓xh_10_1, ↓xh_10_2, ↓xh_10_3, ↓xh_10_4, xo_10, xL_11, xL_12, xL_13, xL_14, xL_15, ↓xr_18_0, ↓xr_18_1, ↓xr_18_2, ↓xr_18_3, ↓xr_18_4, ↓xh_18_0, ↓xh_18_1, ↓xh_18_2, ↓xh_18_3, ↓xh_18_4, xo_18, xL_19, xL_20, xL_21, xL_22, xL_23, uA_s, uA_n, uG_s, uG_n, ne_eq, Nat.reduceEqDiff, not_false_eq_true, cI_lt, cI_eq, ↓reduceIte, if_true, if_false, Nat.lt_irrefl, eq_self, Nat.reduceEqDiff, or_true, true_or, or_false, false_or, not_false_eq_true, not_true_eq_false, ce_5, zb_t, zb_f, hj, e5, e, hd0, b3]
      cases oS ((G 1).pl r k (j + 1) p) <;> simp [zb, cI_eq]
end
