/-! the class beside the law's Grid; small methods of the law -/
theorem ow_swap {f : Nat → Option z_C} {a n b k : Nat} {u w : Nat → z_C} (h : a + n ≤ b ∨ b + k ≤ a) : ow (ow f b k w) a n u = ow (ow f a n u) b k w := by
  funext x
  unfold ow
  by_cases h1 : a ≤ x ∧ x < a + n
  · rw [if_pos h1, if_neg (by omega), if_pos h1]
  · rw [if_neg h1, if_neg h1]
theorem z_kH_r {m pc : Nat} {ls : List Value} (v : Option Value) (h : z_H) (k : Option Value → z_H → Prop) (X : Nat → List Value → z_H → Prop) : z_kH m pc ls (.inr v, h) k X = k v h := rfl
theorem z_kH_l {m pc pc' : Nat} {ls ls' : List Value} {E : String} (h : z_H) (k : Option Value → z_H → Prop) (X : Nat → List Value → z_H → Prop) (hd : z_hd m pc E ls = some (pc', ls')) : z_kH m pc ls (.inl E, h) k X = X pc' ls' h := by
  unfold z_kH
  dsimp only
  rw [hd]
theorem z_kJ_r (v : Option Value) (h : z_H) (K : Option Value → z_H → Prop) : z_kJ (.inr v, h) K = K v h := rfl
def CB (f : Nat → Option z_C) (B : Nat) (S : GS) (len : Nat) (tb : Nat → Nat) : Prop := ∃ G I A, XI S len tb G I A ∧ HB f B 47 (xb B G I A)
theorem CB.ag {f f' : Nat → Option z_C} {B : Nat} {S : GS} {len : Nat} {tb : Nat → Nat} (h : CB f B S len tb) (e : ∀ z, B ≤ z → z < B + 47 → f' z = f z) : CB f' B S len tb := by
  obtain ⟨G, I, A, h1, h2⟩ := h
  exact ⟨G, I, A, h1, fun k hk => (e _ (by omega) (by omega)).trans (h2 k hk)⟩
section
variable {g : z_G} {d m : Nat} {as : List Value} {f : Nat → Option z_C} {B Q : Nat} {S S' T : GS} {X : LX} {len len' : Nat} {tb tb' : Nat → Nat}
theorem CB.O (h : CB f B S len tb) (hB : B + 47 ≤ Q) (T : GS) (X : LX) : z_gO (lgw f Q T X) B 9 := by
  obtain ⟨G, I, A, h1, h2⟩ := h
  have := h2 0 (by omega)
  simp only [z_gO, lg_o (f := f) (Q := Q) (S := T) (X := X) (x := B) (.inl (by omega))]
  rw [show f B = some (xb B G I A 0) from this]
  rfl
theorem cb_id {G : Nat → GS} {I : Nat → Int32} {A : Nat → Nat → Int32} (h : HB f B 47 (xb B G I A)) : xw f B G I A = f := ow_id h
theorem cb_sw {G : Nat → GS} {I : Nat → Int32} {A : Nat → Nat → Int32} (hB : B + 47 ≤ Q) : xw (lgw f Q T X) B G I A = lgw (xw f B G I A) Q T X := ow_swap (.inl hB)
theorem cb_new {G : Nat → GS} {I : Nat → Int32} {A : Nat → Nat → Int32} (h : XI S len tb G I A) : CB (xw f B G I A) B S len tb := ⟨G, I, A, h, ow_HB f B 47 _⟩
/-- a method that only looks -/
theorem CB.read {v : Option Value} (h : CB f B S len tb) (hB : B + 47 ≤ Q) (hc : ∀ f G I A, XI S len tb G I A → ∀ (q : Option Nat × Nat × Nat) (P : z_Res → Prop), z_Ca g d m (.ref B :: as) (xw f B G I A, q) P = P (.inr v, (xw f B G I A, q))) (T : GS) (X : LX) (q : Option Nat × Nat × Nat) (P : z_Res → Prop) : z_Ca g d m (.ref B :: as) (lgw f Q T X, q) P = P (.inr v, (lgw f Q T X, q)) := by
  obtain ⟨G, I, A, h1, h2⟩ := h
  have := hc (lgw f Q T X) G I A h1 q P
  rw [cb_sw hB, cb_id h2] at this
  exact this
theorem CB.call {v : Option Value} (h : CB f B S len tb) (hB : B + 47 ≤ Q) (hc : ∀ f G I A, XI S len tb G I A → ∃ G' I' A', XI S' len' tb' G' I' A' ∧ ∀ (q : Option Nat × Nat × Nat) (P : z_Res → Prop), z_Ca g d m (.ref B :: as) (xw f B G I A, q) P = P (.inr v, (xw f B G' I' A', q))) (T : GS) (X : LX) : ∃ f', CB f' B S' len' tb' ∧ (∀ z, (z < B ∨ B + 47 ≤ z) → f' z = f z) ∧ ∀ (q : Option Nat × Nat × Nat) (P : z_Res → Prop), z_Ca g d m (.ref B :: as) (lgw f Q T X, q) P = P (.inr v, (lgw f' Q T X, q)) := by
  obtain ⟨G, I, A, h1, h2⟩ := h
  obtain ⟨G', I', A', c1, c2⟩ := hc (lgw f Q T X) G I A h1
  refine ⟨xw f B G' I' A', cb_new c1, fun z hz => xw_ne _ _ _ _ _ hz, fun q P => ?_⟩
  have := c2 q P
  rw [cb_sw hB, cb_id h2, cb_sw hB] at this
  exact this
theorem CB.throw {E : String} (h : CB f B S len tb) (hB : B + 47 ≤ Q) (hc : ∀ f G I A, XI S len tb G I A → ∃ G' I' A', XI S len tb G' I' A' ∧ ∀ (q : Option Nat × Nat × Nat) (P : z_Res → Prop), z_Ca g d m (.ref B :: as) (xw f B G I A, q) P = P (.inl E, thr (xw f B G' I' A', q))) (T : GS) (X : LX) : ∃ f', CB f' B S len tb ∧ (∀ z, (z < B ∨ B + 47 ≤ z) → f' z = f z) ∧ ∀ (N x y : Nat) (P : z_Res → Prop), z_Ca g d m (.ref B :: as) (lgw f Q T X, some N, x, y) P = P (.inl E, (lgw f' Q T X, some (N + 1), x + 1, y + 6)) := by
  obtain ⟨G, I, A, h1, h2⟩ := h
  obtain ⟨G', I', A', c1, c2⟩ := hc (lgw f Q T X) G I A h1
  refine ⟨xw f B G' I' A', cb_new c1, fun z hz => xw_ne _ _ _ _ _ hz, fun N x y P => ?_⟩
  have := c2 (some N, x, y) P
  rw [cb_sw hB, cb_id h2, cb_sw hB] at this
  exact this
end
theorem shr_nn (x : Int32) : ∃ k, k < 16777216 ∧ (x.toUInt32 >>> ((nI 8).toUInt32 &&& Int32.toUInt32 31)).toInt32 = nI k := by
  refine ⟨(x.toUInt32 >>> ((nI 8).toUInt32 &&& Int32.toUInt32 31)).toNat, ?_, ?_⟩
  · rw [UInt32.toNat_shiftRight, show ((nI 8).toUInt32 &&& Int32.toUInt32 31).toNat % 32 = 8 by decide +kernel, Nat.shiftRight_eq_div_pow]
    have := x.toUInt32.toNat_lt
    omega
  · generalize x.toUInt32 >>> ((nI 8).toUInt32 &&& Int32.toUInt32 31) = u
    show u.toInt32 = Int32.ofNat u.toNat
    have e : u.toInt32 = (UInt32.ofNat u.toNat).toInt32 := by rw [UInt32.ofNat_toNat]
    rw [e]
    first
      | rfl
      | simp
section
variable {g : z_G} {d : Nat} {F : Nat → Option z_C} {ga : Nat}
theorem s_draw {w : Nat → Int32} (h : F ga = some (inA 1 w)) {m : Nat} (hm : 1 ≤ m) (hm2 : m < 1000) : ∃ v w', v < m ∧ ∀ (q : Option Nat × Nat × Nat) (P : z_Res → Prop), z_Ca g d 143 [.ref ga, .int (nI m)] (F, q) P = P (.inr (some (.int (nI v))), (z_up F ga (inA 1 w'), q)) := by
  obtain ⟨k, k1, k2⟩ := shr_nn (w 0 * 1664525 + 1013904223)
  refine ⟨k % m, upd w 0 (w 0 * 1664525 + 1013904223), Nat.mod_lt _ (by omega), fun q P => ?_⟩
  have l1 := fun K => iA_L (K := K) h (show 0 < 1 by omega) (by omega)
  have l2 := fun K => iA_L (K := K) (z_up_self F ga (inA 1 (upd w 0 (w 0 * 1664525 + 1013904223)))) (show 0 < 1 by omega) (by omega)
  have s1 := fun v K => iA_S' (K := K) (v := v) h (show 0 < 1 by omega) (by omega)
  have md := z_mod (a := k) (b := m) (by omega) (by omega)
  have m0 : ¬ m = 0 := by omega
  rw [zn_143]
  simp (disch := omega) only [ze_143_0, ze_143_0_n, ze_143_1, ze_143_2, ze_143_2_n, ze_143_3, ze_143_4, ze_143_5, ze_143_7, ze_143_8, ze_143_10, ze_143_11, ze_143_12, ze_143_12_n, ze_143_13, ze_143_14, ze_143_15, ze_143_17, ze_143_18, ze_143_19, ze_143_20, z_k_r, z_push_s, z_push_n, okS_0, okS_I, okS_R, okS_A, List.getElem?_cons_zero, List.getElem?_cons_succ, List.length_cons, List.length_nil, List.set_cons_zero, List.set_cons_succ, true_and, and_true, z_tI, z_tB, pk_mul, nI_add, cI_cl, cI_ix, nar_0, nar_1, nar_b, Nat.reduceAdd, Nat.reduceLT, Nat.reduceMul, cI_lt, cI_eq, ↓reduceIte, if_true, if_false, Nat.lt_irrefl, eq_self, Nat.reduceEqDiff, or_true, true_or, or_false, false_or, not_false_eq_true, not_true_eq_false, ce_5, zb_t, zb_f, l1, l2, s1, upd_at, k2, md, m0]
  first
    | rfl
    | (have md2 := md; simp only [pk_mul] at md2; rw [md2])
    | skip
end
