/-! the law's heap, its depth, its own cell -/
theorem z_rn_dup (g : z_G) : ∀ (n d m pc : Nat) (ls st : List Value) (h : z_H) (r : z_Res), z_rn g n d m pc ls st h = some r → z_rn g n (d + 1) m pc ls st h = some r := by
  intro n
  induction n with
  | zero => intro d m pc ls st h r hr; cases hr
  | succ n ih =>
    intro d m pc ls st h r hr
    unfold z_rn at hr ⊢
    split at hr
    · cases hr
    · next hs => (try rw [hs]); exact ih _ _ _ _ _ _ _ hr
    · next m' as r9 hs =>
      (try rw [hs])
      (try dsimp only)
      split at hr
      · cases hr
      · next d' =>
        split at hr
        · next hlen =>
          rw [if_pos hlen]
          split at hr
          · cases hr
          · next v h' hc =>
            rw [ih _ _ _ _ _ _ _ hc]
            exact ih _ _ _ _ _ _ _ hr
          · next E h' hc =>
            rw [ih _ _ _ _ _ _ _ hc]
            dsimp only
            split at hr
            · next hh => rw [if_pos hh]; exact hr
            · next hh =>
              rw [if_neg hh]
              split at hr
              · next hd => (try rw [hd]); exact ih _ _ _ _ _ _ _ hr
              · cases hr
        · cases hr
    · next hs => (try rw [hs]); exact hr
    · next hs => (try rw [hs]); exact hr
theorem z_Ca_dup {g : z_G} {d m : Nat} {as : List Value} {h : z_H} {r : z_Res} (hc : ∀ P : z_Res → Prop, z_Ca g d m as h P = P r) (P : z_Res → Prop) : z_Ca g (d + 1) m as h P = P r := by
  have h0 : z_Ca g d m as h (fun x => x = r) := by rw [hc]
  obtain ⟨hl, n, r', h1, rfl⟩ := h0
  have h2 := z_rn_dup g n d m 0 _ _ _ _ h1
  refine propext ⟨fun ⟨_, n', r2, h3, h4⟩ => ?_, fun hp => ⟨hl, n, _, h2, hp⟩⟩
  have a := z_rn_le (Nat.le_max_left n n') h2
  have b := z_rn_le (Nat.le_max_right n n') h3
  rw [a] at b
  cases b
  exact h4
theorem ow_swap {f : Nat → Option z_C} {a n b k : Nat} {u w : Nat → z_C} (h : a + n ≤ b ∨ b + k ≤ a) : ow (ow f b k w) a n u = ow (ow f a n u) b k w := by
  funext x
  unfold ow
  by_cases h1 : a ≤ x ∧ x < a + n
  · rw [if_pos h1, if_neg (by omega), if_pos h1]
  · rw [if_neg h1, if_neg h1]
def lw (f : Nat → Option z_C) (o : Nat) (c : Nat → Int64) : Nat → Option z_C := ow f o 1 (fun _ => .inl (.long, 1, .inr (.inl c)))
section
variable {f : Nat → Option z_C} {B m o : Nat} {G : Nat → GS} {I : Nat → Int32} {A : Nat → Nat → Int32} {J : Nat → Int32} {K : Nat → Nat → Int32} {c : Nat → Int64} {q : Option Nat × Nat × Nat}
theorem HH_sw (hb : B + 47 ≤ m) : xw (mw f m J K) B G I A = mw (xw f B G I A) m J K := ow_swap (.inl hb)
theorem HH_o (hb : B + 47 ≤ m) (ho : m + 13 ≤ o) : xw (mw (lw f o c) m J K) B G I A o = some (.inl (.long, 1, .inr (.inl c))) := by
  show ow (ow (ow f o 1 _) m 13 _) B 47 _ o = _
  rw [ow_out (.inr (by omega)), ow_out (.inr (by omega))]
  exact ow_in f o 1 _ (k := 0) (by omega)
theorem HH_lS (hb : B + 47 ≤ m) (ho : m + 13 ≤ o) (x : Int64) (k : (Nat → Option z_C) → Prop) : z_lS (xw (mw (lw f o c) m J K) B G I A) o (nI 0) x k = k (xw (mw (lw f o (vp_updL c 0 x)) m J K) B G I A) := by
  have e : z_up (xw (mw (lw f o c) m J K) B G I A) o (.inl (.long, 1, .inr (.inl (vp_updL c 0 x)))) = xw (mw (lw f o (vp_updL c 0 x)) m J K) B G I A := by
    show z_up (ow (ow (ow f o 1 _) m 13 _) B 47 _) o _ = _
    rw [ow_upo _ (.inr (by omega)), ow_upo _ (.inr (by omega))]
    have := ow_up (f := f) (a := o) (n := 1) (w := fun _ => .inl (.long, 1, .inr (.inl c))) (k := 0) (.inl (.long, 1, .inr (.inl (vp_updL c 0 x)))) (by omega)
    rw [Nat.add_zero] at this
    rw [this]
    show ow (ow (ow f o 1 _) m 13 _) B 47 _ = ow (ow (ow f o 1 _) m 13 _) B 47 _
    congr 2
    refine ow_congr fun k hk => ?_
    rw [if_pos (by omega)]
  unfold z_lS
  rw [HH_o hb ho]
  dsimp only
  rw [show (nI 0).toNatClampNeg = 0 from rfl, e]
  exact propext ⟨fun h => h.2, fun h => ⟨rfl, h⟩⟩
theorem HH_lL (hb : B + 47 ≤ m) (ho : m + 13 ≤ o) (k : Int64 → Prop) : z_lL (xw (mw (lw f o c) m J K) B G I A) o (nI 0) k = k (c 0) := by
  unfold z_lL
  rw [HH_o hb ho]
  dsimp only
  rw [show (nI 0).toNatClampNeg = 0 from rfl]
  exact propext ⟨fun h => h.2, fun h => ⟨rfl, h⟩⟩
theorem HH_gm (hb : B + 47 ≤ m) : z_gO (xw (mw f m J K) B G I A) m 10 = True := by
  rw [HH_sw hb]
  unfold z_gO
  rw [mw_0]
  exact eq_self _
theorem HH_th {g : z_G} {d : Nat} (hb : B + 47 ≤ m) (P : z_Res → Prop) : z_Ca g d 121 [.ref m] (xw (mw f m J K) B G I A, q) P = P (.inr (some (.int (J 0))), (xw (mw f m J K) B G I A, q)) := by
  rw [HH_sw hb, zn_121]
  simp (disch := omega) only [ze_121_0, ze_121_1, ze_121_4, z_k_r, z_push_s, z_push_n, okS_0, okS_I, okS_R, okS_A, List.getElem?_cons_zero, List.getElem?_cons_succ, List.length_cons, List.length_nil, List.set_cons_zero, List.set_cons_succ, true_and, and_true, z_tI, z_tB, pk_mul, nI_add, cI_cl, cI_ix, nar_0, nar_1, nar_b, Nat.reduceAdd, Nat.reduceLT, Nat.reduceMul, ↓mg_0_q, mg_0, ↓mp_0_q, mp_0, ↓mg_1_q, mg_1, ↓mp_1_q, mp_1, ↓mg_2_q, mg_2, ↓mp_2_q, mp_2, ↓mg_3_q, mg_3, ↓mp_3_q, mp_3, ↓mg_4_q, mg_4, ↓mp_4_q, mp_4, ↓mg_5_q, mg_5, ↓mp_5_q, mp_5, ↓mg_6_q, mg_6, ↓mp_6_q, mp_6, ↓mg_7_q, mg_7, ↓mg_8_q, mg_8, ↓mg_9_q, mg_9, ↓mg_10_q, mg_10, ↓mg_11_q, mg_11, ↓mg_12_q, mg_12, ↓mg_13_q, mg_13, ↓mp_13_q, mp_13, ↓mg_14_q, mg_14, ↓mp_14_q, mp_14, ↓mg_15_q, mg_15, ↓mp_15_q, mp_15, ↓mg_16_q, mg_16, ↓mp_16_q, mp_16, ↓mg_17_q, mg_17, ↓mp_17_q, mp_17, ↓mg_18_q, mg_18, ↓mp_18_q, mp_18, ↓mg_19_q, mg_19, ↓mp_19_q, mp_19, ↓mg_20_q, mg_20, ↓mp_20_q, mp_20, ↓mg_21_q, mg_21, ↓mp_21_q, mp_21, ↓mg_22_q, mg_22, ↓mg_23_q, mg_23, ↓mp_23_q, mp_23, ↓mg_24_q, mg_24, ↓mg_25_q, mg_25, ↓mg_26_q, mg_26, ↓mg_27_q, mg_27, ↓mg_28_q, mg_28, ↓mL_1_q, mL_1, ↓mS_1_q, mS_1, ↓mL_2_q, mL_2, ↓mS_2_q, mS_2, ↓mL_3_q, mL_3, ↓mS_3_q, mS_3, ↓mL_4_q, mL_4, ↓mS_4_q, mS_4, ↓mL_5_q, mL_5, ↓mS_5_q, mS_5, ↓mL_6_q, mL_6, ↓mS_6_q, mS_6, ↓mL_7_q, mL_7, ↓mS_7_q, mS_7, ↓mL_8_q, mL_8, ↓mS_8_q, mS_8, ↓mL_9_q, mL_9, ↓mS_9_q, mS_9, ↓mL_10_q, mL_10, ↓mS_10_q, mS_10, ↓mL_11_q, mL_11, ↓mS_11_q, mS_11, ↓mL_12_q, mL_12, ↓mS_12_q, mS_12, m_gO, uA_s, uA_n, cI_lt, cI_eq, ↓reduceIte, if_true, if_false, Nat.lt_irrefl, eq_self, Nat.reduceEqDiff, or_true, true_or, or_false, false_or, not_false_eq_true, not_true_eq_false, ce_5, zb_t, zb_f]
theorem upL (c : Nat → Int64) (x : Int64) : vp_updL c 0 x 0 = x := if_pos rfl
theorem cmp0 (x : Int64) : lg_cmp x x = nI 0 := by
  unfold lg_cmp
  rw [if_neg (Int64.lt_irrefl), if_pos rfl]
  rfl
theorem z_kH_r {m pc : Nat} {ls : List Value} (v : Option Value) (h : z_H) (k : Option Value → z_H → Prop) (X : Nat → List Value → z_H → Prop) : z_kH m pc ls (.inr v, h) k X = k v h := rfl
theorem z_kH_l {m pc pc' : Nat} {ls ls' : List Value} {E : String} (h : z_H) (k : Option Value → z_H → Prop) (X : Nat → List Value → z_H → Prop) (hd : z_hd m pc E ls = some (pc', ls')) : z_kH m pc ls (.inl E, h) k X = X pc' ls' h := by
  unfold z_kH
  dsimp only
  rw [hd]
end
