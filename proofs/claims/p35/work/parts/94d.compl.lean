/-! the law's Grid: completions asked for; arrays of arrays made beside it -/
def m2F (f : Nat → Option z_C) (N : Nat) (ty : FieldType) (n k : Nat) : Nat → Option z_C := fun j => if j = N then some (lo ty n (fun i => N + 1 + i)) else if N < j ∧ j ≤ N + n then some (.inl (ty, k, .inl fun _ => 0)) else f j
theorem m2F_0 {f : Nat → Option z_C} {N : Nat} {ty : FieldType} {n k : Nat} : m2F f N ty n k N = some (lo ty n (fun i => N + 1 + i)) := if_pos rfl
theorem m2F_r {f : Nat → Option z_C} {N : Nat} {ty : FieldType} {n k r : Nat} (h : r < n) : m2F f N ty n k (N + 1 + r) = some (.inl (ty, k, .inl fun _ => 0)) := by
  unfold m2F
  rw [if_neg (by omega), if_pos (by omega)]
theorem m2F_o {f : Nat → Option z_C} {N : Nat} {ty : FieldType} {n k z : Nat} (h : z < N ∨ N + 1 + n ≤ z) : m2F f N ty n k z = f z := by
  unfold m2F
  rw [if_neg (by omega), if_neg (by omega)]
theorem m2F_lg {f : Nat → Option z_C} {Q N : Nat} {S : GS} {X : LX} {ty : FieldType} {n k : Nat} (h : Q + NL S ≤ N) : m2F (lgw f Q S X) N ty n k = lgw (m2F f N ty n k) Q S X := by
  funext z
  by_cases e : Q ≤ z ∧ z < Q + NL S
  · rw [m2F_o (by omega)]
    obtain ⟨i, rfl⟩ := Nat.exists_eq_add_of_le e.1
    exact (ow_in f Q (NL S) (lgb Q S X) (by omega)).trans (ow_in (m2F f N ty n k) Q (NL S) (lgb Q S X) (by omega)).symm
  · rw [show lgw (m2F f N ty n k) Q S X z = m2F f N ty n k z from ow_out (by omega)]
    unfold m2F
    rw [show lgw f Q S X z = f z from ow_out (by omega)]
theorem nM_ {f : Nat → Option z_C} {N x y n k : Nat} {ty : FieldType} {K : Nat → z_H → Prop} (hn : n ≤ 1000) (hk : k ≤ 1000) : z_nM ty (f, some N, x, y) (nI n) (nI k) K = K N (m2F f N ty n k, some (N + 1 + n), x + 1 + n, y + n + n * k) := by
  have h : z_ma2 ty (f, some N, x, y) (nI n) (nI k) = some (N, (m2F f N ty n k, some (N + 1 + n), x + 1 + n, y + n + n * k)) := by
    unfold z_ma2
    dsimp only
    rw [if_pos ⟨cI_rng hn, cI_rng hk⟩, cI_cl (by omega), cI_cl (by omega)]
    rfl
  unfold z_nM
  rw [h]
theorem arr_sS (n : Nat) : (fun _ => 0 : Nat → Int32) = arr n fun _ => sS fun _ => false := by
  funext z
  unfold arr
  split <;> rfl
section
variable {g : z_G} {Q L : Nat} {S : GS}
theorem l_complete {d : Nat} {f : Nat → Option z_C} {N x y : Nat} {n0 : Int32} {fi se fw th : Value} {P : z_Res → Prop} (hg : GI S) (hd : 30 < d) (hL : 1 ≤ L) (hL2 : L ≤ 1000) (hN : Q + NL S ≤ N) (hP : ∀ f' N' x' y' fi' p', SB f' N S.R S.C p' → (S.cn < L → ∀ r j s, r < S.R → j < S.C → s < 5 → p' r j s = S.pb r j s) → (∀ z, z < N → f' z = f z) → N + 1 + S.R ≤ N' → x' ≤ x + 12 → y' ≤ y + 60 → (z_isA fi = true → z_isA fi' = true) → (∀ F, S.fcO = some F → ∃ b : Nat, fi' = .ref b ∧ N ≤ b ∧ b + 1 + S.R ≤ N' ∧ FB f' b S.R S.C F) → P (.inr none, (lgw f' Q S (nI (min L S.cn), fi', .ref N, fw, th), some N', x', y'))) : z_Ca g d 98 [.ref Q, .int (nI L)] (lgw f Q S (n0, fi, se, fw, th), some N, x, y) P := by
  have hC := hg.C5
  have hR := hg.RC
  have h25 := RC_25 hg
  have hd0 : 0 < d := by omega
  have S0 : SB (m2F f N .int S.R S.C) N S.R S.C (fun _ _ _ => false) := by
    refine ⟨m2F_0, fun r hr => ?_⟩
    rw [m2F_r hr, arr_sS S.C]
    rfl
  have pn := fun f q v K => lG_pn f Q S (n0, fi, se, fw, th) q v K
  have p9 : ∀ f n v K, z_pF (lgw f Q S (n, fi, se, fw, th)) Q 10 9 v K = K (lgw f Q S (n, fi, v, fw, th)) := fun f n v K => lG_p9 f Q S (n, fi, se, fw, th) (none, 0, 0) v K
  rw [zn_98]
  simp (disch := omega) only [ze_98_0, ze_98_0_n, ze_98_1, ze_98_2, ze_98_5, ze_98_5_n, ze_98_6, ze_98_6_n, ze_98_7, ze_98_10, ze_98_10_n, ze_98_11, ze_98_14, ze_98_18, ze_98_18_n, ze_98_21, ze_98_21_n, ze_98_22, ze_98_23, ze_98_24, ze_98_27, z_k_r, z_push_s, z_push_n, okS_0, okS_I, okS_R, okS_A, List.getElem?_cons_zero, List.getElem?_cons_succ, List.length_cons, List.length_nil, List.set_cons_zero, List.set_cons_succ, true_and, and_true, z_tI, z_tB, pk_mul, nI_add, cI_cl, cI_ix, nar_0, nar_1, nar_b, Nat.reduceAdd, Nat.reduceLT, Nat.reduceMul, ↓lG_R, ↓lG_C, ↓lG_N, ↓lG_G, ↓lG_n, ↓lG_4, ↓lG_5, ↓lG_6, lG_o, ↓lG_q1, lG_q1, ↓lG_q2, lG_q2, ↓lG_q3, lG_q3, ↓lG_q4, lG_q4, ↓lG_a1, lG_a1, ↓lG_a2, lG_a2, ↓lG_a4, lG_a4, lH_R, lH_C, lH_N, lH_G, lH_n, lH_4, lH_5, lH_6, lH_q1, lH_q2, lH_q3, lH_q4, lH_a1, lH_a2, lH_a4, ↓pn, hd0, nM_, m2F_lg hN, ↓p9, p9]
  refine l_go (g := g) (fw := fw) (th := th) hL hL2 (S.R * S.C) (d - 1) 0 0 S (m2F f N .int S.R S.C) (N + 1 + S.R) (x + 1 + S.R) (y + S.R + S.R * S.C) fi (fun _ _ _ => false) _ hg (Nat.zero_add _) (fun r j _ _ h => absurd h (Nat.not_lt_zero _)) (by omega) (by omega) hN (Nat.le_refl _) S0 (fun f' N' x' y' cnt' fi' p' hG => ?_)
  obtain ⟨a1, a2, a3, a4, a5, a6, a7, a8⟩ := hG
  have := hP f' N' x' y' fi' p' a2 (fun h r j s hr hj hs => by rw [a3 (by omega) r j s hr hj hs]; rfl) (fun z hz => by rw [a4 z (by omega) (by omega), m2F_o (by omega)]) (by omega) (by omega) (by omega) (fun hi => by
      cases e : S.fcO with
      | none =>
        rw [(a6 (.inr (fc_none.mp e))).1]
        exact hi
      | some F =>
        obtain ⟨b, q1, -⟩ := a8 rfl F e
        rw [q1]
        rfl) (fun F hF => by
      obtain ⟨b, q1, q2, q3, q4⟩ := a8 rfl F hF
      exact ⟨b, q1, by omega, q3, q4⟩)
  rw [show cnt' = min L S.cn by omega]
  simp only [z_k_r, z_push_s, z_push_n, okS_0, okS_I, okS_R, okS_A, List.getElem?_cons_zero, List.getElem?_cons_succ, List.length_cons, List.length_nil, List.set_cons_zero, List.set_cons_succ, true_and, and_true, z_tI, z_tB, pk_mul, nI_add, cI_cl, cI_ix, nar_0, nar_1, nar_b, Nat.reduceAdd, Nat.reduceLT, Nat.reduceMul, ze_98_0, ze_98_0_n, ze_98_1, ze_98_2, ze_98_5, ze_98_5_n, ze_98_6, ze_98_6_n, ze_98_7, ze_98_10, ze_98_10_n, ze_98_11, ze_98_14, ze_98_18, ze_98_18_n, ze_98_21, ze_98_21_n, ze_98_22, ze_98_23, ze_98_24, ze_98_27]
  exact this
end
/-! transversals: how many go through a cell -/
theorem ac_fx {S : GS} {fx fx' : Nat → Nat → Bool} : ∀ (k r : Nat) (bz us : Nat → Bool), (∀ i c, r ≤ i → i < r + k → c < S.C → fx i c = fx' i c) → S.ac fx k r bz us = S.ac fx' k r bz us
  | 0, r, bz, us, h => rfl
  | k + 1, r, bz, us, h => by
    unfold GS.ac
    refine sm_congr _ _ fun c _ hc => ?_
    rw [h r c (Nat.le_refl _) (by omega) (by omega)]
    by_cases z : (fx' r c && S.fr r c bz us) = true
    · rw [if_pos z, if_pos z]
      exact ac_fx k (r + 1) _ _ fun i c a b e => h i c (by omega) (by omega) e
    · rw [if_neg z, if_neg z]
def fx1 : Nat → Nat → Bool := fun _ _ => true
def fxN (r0 c0 : Nat) : Nat → Nat → Bool := fun r c => decide (r ≠ r0) || decide (c = c0)
/-- how many that go on from a row pass a cell, W being the ways ahead of the row -/
def GS.th (S : GS) (k r : Nat) (W : Nat → Nat) (bz us : Nat → Bool) (r' j' : Nat) : Nat := if r' < r then (if W r' = j' then S.ac fx1 k r bz us else 0) else S.ac (fxN r' j') k r bz us
theorem sm_if {p : Nat → Nat} {b : Bool} : ∀ k i, sm (fun c => if b = true then p c else 0) i k = if b = true then sm p i k else 0 := by
  intro k i
  cases b
  · simp only [Bool.false_eq_true, if_false]
    exact sm_0 k i
  · simp only [if_true]
theorem th_step {S : GS} {k r : Nat} {W : Nat → Nat} {bz us : Nat → Bool} {r' j' : Nat} (hj' : j' < S.C) : S.th (k + 1) r W bz us r' j' = sm (fun c => if S.fr r c bz us = true then S.th k (r + 1) (nu W r c) (ad bz c) (ad us (S.c (r * 5 + c))) r' j' else 0) 0 S.C := by
  unfold GS.th
  by_cases e : r' < r
  · have e1 : r' < r + 1 := by omega
    simp only [if_pos e, if_pos e1]
    by_cases w : W r' = j'
    · rw [if_pos w]
      conv => lhs; unfold GS.ac
      refine sm_congr _ _ fun c _ hc => ?_
      rw [nu_n (by omega), if_pos w]
      rfl
    · rw [if_neg w]
      have : (fun c => if S.fr r c bz us = true then (if nu W r c r' = j' then S.ac fx1 k (r + 1) (ad bz c) (ad us (S.c (r * 5 + c))) else 0) else 0) = fun _ => 0 := by
        funext c
        rw [nu_n (by omega), if_neg w]
        split <;> rfl
      rw [this, sm_0]
  · rw [if_neg e]
    conv => lhs; unfold GS.ac
    by_cases e2 : r' = r
    · subst e2
      refine sm_congr _ _ fun c _ hc => ?_
      rw [if_pos (show r' < r' + 1 by omega), nu_s]
      have fx : fxN r' j' r' c = decide (c = j') := by
        unfold fxN
        rw [decide_eq_false (by omega)]
        rfl
      rw [fx]
      by_cases w : c = j'
      · rw [decide_eq_true w, Bool.true_and, if_pos w]
        by_cases z : S.fr r' c bz us = true
        · rw [if_pos z, if_pos z]
          exact ac_fx _ _ _ _ fun i c' a b _ => by
            unfold fxN fx1
            rw [decide_eq_true (by omega)]
            rfl
        · rw [if_neg z, if_neg z]
      · rw [decide_eq_false w, Bool.false_and, if_neg w]
        simp
    · refine sm_congr _ _ fun c _ hc => ?_
      rw [if_neg (show ¬ r' < r + 1 by omega)]
      have fx : fxN r' j' r c = true := by
        unfold fxN
        rw [decide_eq_true (by omega)]
        rfl
      rw [fx, Bool.true_and]
theorem fxc_1 {S : GS} (k r : Nat) (bz us : Nat → Bool) (h : r + k < 1000) : S.ac (fxc (-1) (-1)) k r bz us = S.ac fx1 k r bz us := ac_fx k r bz us fun i c a b _ => fx_t i c (by omega)
theorem fxc_N {S : GS} {r0 c0 : Nat} (h0 : r0 < 1000) (h1 : c0 < 1000) (hC : S.C ≤ 5) (k r : Nat) (bz us : Nat → Bool) (h : r + k < 1000) : S.ac (fxc (nI r0) (nI c0)) k r bz us = S.ac (fxN r0 c0) k r bz us := ac_fx k r bz us fun i c a b hc => by
  unfold fxc fxN
  have e1 : (nI i = nI r0) = (i = r0) := cI_eq (by omega) (by omega)
  have e2 : (nI c = nI c0) = (c = c0) := cI_eq (by omega) (by omega)
  simp only [e1, e2, ne_eq]
/-- the first way, in full -/
def GS.fo (S : GS) (k r : Nat) (W : Nat → Nat) (bz us : Nat → Bool) : Option (Nat → Nat) := if 0 < S.ac fx1 k r bz us then some (fun i => if i < r then W i else S.FT k r bz us (i - r)) else none
theorem fo_none {S : GS} {k r : Nat} {W : Nat → Nat} {bz us : Nat → Bool} : S.fo k r W bz us = none ↔ S.ac fx1 k r bz us = 0 := by
  unfold GS.fo
  by_cases z : 0 < S.ac fx1 k r bz us
  · rw [if_pos z]
    exact ⟨(fun h => nomatch h), fun h => by omega⟩
  · rw [if_neg z]
    exact ⟨fun _ => by omega, fun _ => rfl⟩
theorem fo_step {S : GS} (hC : S.C ≤ 5) {k r : Nat} (hr : r < 5) (hk : r + k < 900) {W : Nat → Nat} {bz us : Nat → Bool} : S.fo (k + 1) r W bz us = fsO (fun c => if S.fr r c bz us = true then S.fo k (r + 1) (nu W r c) (ad bz c) (ad us (S.c (r * 5 + c))) else none) 0 S.C := by
  have ac1 : S.ac fx1 (k + 1) r bz us = sm (fun c => if S.fr r c bz us = true then S.ac fx1 k (r + 1) (ad bz c) (ad us (S.c (r * 5 + c))) else 0) 0 S.C := by
    conv => lhs; unfold GS.ac
    rfl
  by_cases z : 0 < S.ac fx1 (k + 1) r bz us
  · have z2 : 0 < S.ac (fxc (-1) (-1)) (k + 1) r bz us := by rw [fxc_1 _ _ _ _ (by omega)]; exact z
    obtain ⟨f1, f2, f3⟩ := fc_sp hC hr z2
    have tc : ∀ c, S.tc k r bz us c = (decide (c < S.C) && S.fr r c bz us && decide (0 < S.ac fx1 k (r + 1) (ad bz c) (ad us (S.c (r * 5 + c))))) := fun c => by
      unfold GS.tc
      rw [fxc_1 _ _ _ _ (by omega)]
    rw [tc, Bool.and_eq_true, Bool.and_eq_true] at f2
    obtain ⟨⟨-, g1⟩, g2⟩ := f2
    have g2 := of_decide_eq_true g2
    have h1 : S.fo (k + 1) r W bz us = some (fun i => if i < r then W i else S.FT (k + 1) r bz us (i - r)) := if_pos z
    rw [h1]
    symm
    refine fsO_low f1 (fun j hj => ?_) ?_
    · have := f3 j hj
      rw [tc, decide_eq_true (by omega : j < S.C), Bool.true_and] at this
      by_cases w : S.fr r j bz us = true
      · rw [w, Bool.true_and] at this
        rw [if_pos w]
        exact fo_none.mpr (by have := of_decide_eq_false this; omega)
      · rw [if_neg w]
    · rw [if_pos g1]
      have h2 : S.fo k (r + 1) (nu W r (S.fc k r bz us)) (ad bz (S.fc k r bz us)) (ad us (S.c (r * 5 + S.fc k r bz us))) = some (fun i => if i < r + 1 then nu W r (S.fc k r bz us) i else S.FT k (r + 1) (ad bz (S.fc k r bz us)) (ad us (S.c (r * 5 + S.fc k r bz us))) (i - (r + 1))) := if_pos g2
      rw [h2]
      refine congrArg some (funext fun i => ?_)
      by_cases a : i < r
      · rw [if_pos (by omega), if_pos a, nu_n (by omega)]
      · rw [if_neg a]
        by_cases b : i = r
        · subst b
          rw [if_pos (by omega), nu_s, Nat.sub_self]
          rfl
        · rw [if_neg (by omega), show i - r = (i - (r + 1)) + 1 by omega]
          rfl
  · rw [fo_none.mpr (by omega)]
    symm
    refine (fs_sm (p := fun c => if S.fr r c bz us = true then S.ac fx1 k (r + 1) (ad bz c) (ad us (S.c (r * 5 + c))) else 0) S.C 0 fun s _ _ => ?_).mpr (by rw [← ac1]; omega)
    by_cases w : S.fr r s bz us = true
    · rw [if_pos w, if_pos w]
      exact fo_none
    · rw [if_neg w, if_neg w]
      exact ⟨fun _ => rfl, fun _ => rfl⟩
