/-! the law hands its text to the class -/
def pk8 (x : Int32) (c : Nat) : Int32 := x <<< (nI 8 &&& 31) ||| nI c
def gj (ch : Nat → Nat) : Nat → Nat → Int32
  | 0 => fun _ => 0
  | j + 1 => upd (gj ch j) (j / 4) (pk8 (gj ch j (j / 4)) (ch j))
theorem gj_20 (ch : Nat → Nat) {q : Nat} (hq : q < 5) : gj ch 20 q = pk8 (pk8 (pk8 (pk8 0 (ch (4 * q))) (ch (4 * q + 1))) (ch (4 * q + 2))) (ch (4 * q + 3)) := by
  rcases (show q = 0 ∨ q = 1 ∨ q = 2 ∨ q = 3 ∨ q = 4 by omega) with rfl | rfl | rfl | rfl | rfl <;> rfl
theorem pk_by (a b c e : Nat) (ha : a < 256) (hb : b < 256) (hc : c < 256) (he : e < 256) {i : Nat} (hi : i < 4) : (by4 (pk8 (pk8 (pk8 (pk8 0 a) b) c) e) i).toInt32 = bs (if i = 0 then a else if i = 1 then b else if i = 2 then c else e) := by
  rcases (show i = 0 ∨ i = 1 ∨ i = 2 ∨ i = 3 by omega) with rfl | rfl | rfl | rfl
  · unfold pk8
    rw [by4_s _ he (by omega), by4_s _ hc (by omega), by4_s _ hb (by omega)]
    exact by4_l _ ha
  · unfold pk8
    rw [by4_s _ he (by omega), by4_s _ hc (by omega)]
    exact by4_l _ hb
  · unfold pk8
    rw [by4_s _ he (by omega)]
    exact by4_l _ hc
  · unfold pk8
    exact by4_l _ he
def chF (u : Nat → Nat) (len k : Nat) : Nat → Nat := fun j => if k + j < len then u (k + j) else 32
/-- the class's text when k characters have been handed over -/
def tbF (tb u : Nat → Nat) (len k : Nat) : Nat → Nat := fun j => if k ≤ j ∧ j < k + 20 then (if j < len then u j else 32) else tb j
theorem ap20_ch {tb u : Nat → Nat} {len k : Nat} (hu : ∀ j, u j < 128) (i : Nat) : ap20 (fun j => bs (tb j)) k (gj (chF u len k) 20 0) (gj (chF u len k) 20 1) (gj (chF u len k) 20 2) (gj (chF u len k) 20 3) (gj (chF u len k) 20 4) i = bs (tbF tb u len k i) := by
  have hc : ∀ j, chF u len k j < 256 := fun j => by
    unfold chF
    split
    · have := hu (k + j)
      omega
    · omega
  have one : ∀ (q : Nat), q < 5 → ∀ (F : Nat → Int32), ap4 F (k + 4 * q) (gj (chF u len k) 20 q) i = if k + 4 * q ≤ i ∧ i < k + 4 * q + 4 then bs (chF u len k (i - k)) else F i := by
    intro q hq F
    unfold ap4
    by_cases z : k + 4 * q ≤ i ∧ i < k + 4 * q + 4
    · rw [if_pos z, if_pos z, gj_20 _ hq, pk_by _ _ _ _ (hc _) (hc _) (hc _) (hc _) (by omega)]
      congr 1
      rcases (show i = k + 4 * q ∨ i = k + 4 * q + 1 ∨ i = k + 4 * q + 2 ∨ i = k + 4 * q + 3 by omega) with e | e | e | e
      · rw [if_pos (by omega), show i - k = 4 * q by omega]
      · rw [if_neg (by omega), if_pos (by omega), show i - k = 4 * q + 1 by omega]
      · rw [if_neg (by omega), if_neg (by omega), if_pos (by omega), show i - k = 4 * q + 2 by omega]
      · rw [if_neg (by omega), if_neg (by omega), if_neg (by omega), show i - k = 4 * q + 3 by omega]
    · rw [if_neg z, if_neg z]
  unfold ap20
  have o4 := one 4 (by omega) (ap4 (ap4 (ap4 (ap4 (fun j => bs (tb j)) k (gj (chF u len k) 20 0)) (k + 4) (gj (chF u len k) 20 1)) (k + 8) (gj (chF u len k) 20 2)) (k + 12) (gj (chF u len k) 20 3))
  have o3 := one 3 (by omega) (ap4 (ap4 (ap4 (fun j => bs (tb j)) k (gj (chF u len k) 20 0)) (k + 4) (gj (chF u len k) 20 1)) (k + 8) (gj (chF u len k) 20 2))
  have o2 := one 2 (by omega) (ap4 (ap4 (fun j => bs (tb j)) k (gj (chF u len k) 20 0)) (k + 4) (gj (chF u len k) 20 1))
  have o1 := one 1 (by omega) (ap4 (fun j => bs (tb j)) k (gj (chF u len k) 20 0))
  have o0 := one 0 (by omega) (fun j => bs (tb j))
  rw [show k + 4 * 4 = k + 16 by omega] at o4
  rw [show k + 4 * 3 = k + 12 by omega] at o3
  rw [show k + 4 * 2 = k + 8 by omega] at o2
  rw [show k + 4 * 1 = k + 4 by omega] at o1
  rw [show k + 4 * 0 = k by omega] at o0
  rw [o4, o3, o2, o1, o0]
  unfold tbF
  by_cases z : k ≤ i ∧ i < k + 20
  · rw [if_pos z]
    have e : chF u len k (i - k) = if i < len then u i else 32 := by
      unfold chF
      rw [show k + (i - k) = i by omega]
    rw [← e]
    split
    · rfl
    split
    · rfl
    split
    · rfl
    split
    · rfl
    split
    · rfl
    omega
  · rw [if_neg z, if_neg (by omega), if_neg (by omega), if_neg (by omega), if_neg (by omega), if_neg (by omega)]
section
variable {g : z_G} {d B Q s w len : Nat} {S S9 : GS} {X : LX} {P : z_Res → Prop} {u : Nat → Nat}
theorem l_fj {f : Nat → Option z_C} {a k : Nat} {q : Option Nat × Nat × Nat} {v2 : Value} (hd : 4 < d) (ha : Q + NL S ≤ a) (hs : s < Q ∨ Q + NL S ≤ s) (hw : w < Q ∨ Q + NL S ≤ w) (hsa : s ≠ a) (hwa : w ≠ a) (h1 : f s = some (stF w)) (h2 : f w = some (byA len u)) (hl : len ≤ 240) (hk : k < len) (hu : ∀ j, u j < 128) : ∀ (m j : Nat), j + m = 20 → z_T g d 142 20 [.ref B, .ref s, v2, .int (nI k), .ref a, .int (nI j)] [] (lgw (z_up f a (inA 5 (gj (chF u len k) j))) Q S X, q) P = z_T g d 142 75 [.ref B, .ref s, v2, .int (nI k), .ref a, .int (nI 20)] [] (lgw (z_up f a (inA 5 (gj (chF u len k) 20))) Q S X, q) P
  | 0, j, h => by
    have : j = 20 := by omega
    subst this
    rw [ze_142_20]
    simp (disch := omega) only [ze_142_0, ze_142_1, ze_142_2, ze_142_3, ze_142_4, ze_142_5, ze_142_5_s, ze_142_5_n, ze_142_6, ze_142_6_r, ze_142_9, ze_142_12, ze_142_13, ze_142_15, ze_142_15_n, ze_142_17, ze_142_18, ze_142_22, ze_142_24, ze_142_27, ze_142_27_n, ze_142_29, ze_142_31, ze_142_32, ze_142_33, ze_142_33_n, ze_142_35, ze_142_37, ze_142_38, ze_142_39, ze_142_40, ze_142_42, ze_142_43, ze_142_44, ze_142_46, ze_142_47, ze_142_47_s, ze_142_47_n, ze_142_48, ze_142_48_r, ze_142_51, ze_142_54, ze_142_54_s, ze_142_54_n, ze_142_55, ze_142_56, ze_142_58, ze_142_59, ze_142_59_r, ze_142_62, ze_142_65, ze_142_67, ze_142_68, ze_142_69, ze_142_72, ze_142_78, ze_142_78_n, ze_142_79, ze_142_79_n, ze_142_81, ze_142_82, ze_142_83, ze_142_83_n, ze_142_85, ze_142_86, ze_142_87, ze_142_87_n, ze_142_89, ze_142_90, ze_142_91, ze_142_91_n, ze_142_93, ze_142_94, ze_142_95, ze_142_95_n, ze_142_97, ze_142_98, ze_142_99, ze_142_102, ze_142_103, ze_142_106, ze_142_107, ze_142_108, ze_142_111, ze_142_114, ze_142_115, z_k_r, z_push_s, z_push_n, okS_0, okS_I, okS_R, okS_A, List.getElem?_cons_zero, List.getElem?_cons_succ, List.length_cons, List.length_nil, List.set_cons_zero, List.set_cons_succ, true_and, and_true, z_tI, z_tB, pk_mul, nI_add, cI_cl, cI_ix, nar_0, nar_1, nar_b, Nat.reduceAdd, Nat.reduceLT, Nat.reduceMul, cI_lt, cI_eq, ↓reduceIte, if_true, if_false, Nat.lt_irrefl, eq_self, Nat.reduceEqDiff, or_true, true_or, or_false, false_or, not_false_eq_true, not_true_eq_false, ce_5, zb_t, zb_f]
  | m + 1, j, h => by
    have hj : j < 20 := by omega
    have hd0 : 0 < d := by omega
    have dv : nI j / nI 4 = nI (j / 4) := cI_div (by omega) (by omega) (by omega)
    have hs2 : lgw (z_up f a (inA 5 (gj (chF u len k) j))) Q S X s = some (stF w) := by rw [lg_o hs, z_up_ne hsa]; exact h1
    have hw2 : lgw (z_up f a (inA 5 (gj (chF u len k) j))) Q S X w = some (byA len u) := by rw [lg_o hw, z_up_ne hwa]; exact h2
    have ln := fun P => j_len (g := g) (d := d - 1) (q := q) (P := P) hs2 hw2 (by omega)
    have so := st_O hs2
    have l1 : ∀ K : Int32 → Prop, z_aL (lgw (z_up f a (inA 5 (gj (chF u len k) j))) Q S X) a z_tI (nI (j / 4)) K = K (gj (chF u len k) j (j / 4)) := fun K => by
      rw [th_aL (.inr ha), iA_L (z_up_self _ _ _) (by omega) (by omega)]
    have s1 : ∀ (v : Int32) (K : (Nat → Option z_C) → Prop), z_aS (lgw (z_up f a (inA 5 (gj (chF u len k) j))) Q S X) a z_tI (nI (j / 4)) v K = K (lgw (z_up f a (inA 5 (upd (gj (chF u len k) j) (j / 4) v))) Q S X) := fun v K => by
      rw [th_aS (.inr ha), iA_S (by omega) (by omega)]
    have go := l_fj (q := q) (v2 := v2) hd ha hs hw hsa hwa h1 h2 hl hk hu m (j + 1) (by omega)
    have st : gj (chF u len k) (j + 1) = upd (gj (chF u len k) j) (j / 4) (gj (chF u len k) j (j / 4) <<< (nI 8 &&& 31) ||| nI (chF u len k j)) := rfl
    rw [st] at go
    rw [ze_142_20]
    by_cases z : k + j < len
    · have ca := fun P => j_chAt (g := g) (d := d - 1) (q := q) (P := P) (i := k + j) hs2 hw2 (by omega) z (by omega) (hu _)
      have ch : chF u len k j = u (k + j) := if_pos z
      rw [ch] at go
      simp (disch := omega) only [ze_142_0, ze_142_1, ze_142_2, ze_142_3, ze_142_4, ze_142_5, ze_142_5_s, ze_142_5_n, ze_142_6, ze_142_6_r, ze_142_9, ze_142_12, ze_142_13, ze_142_15, ze_142_15_n, ze_142_17, ze_142_18, ze_142_22, ze_142_24, ze_142_27, ze_142_27_n, ze_142_29, ze_142_31, ze_142_32, ze_142_33, ze_142_33_n, ze_142_35, ze_142_37, ze_142_38, ze_142_39, ze_142_40, ze_142_42, ze_142_43, ze_142_44, ze_142_46, ze_142_47, ze_142_47_s, ze_142_47_n, ze_142_48, ze_142_48_r, ze_142_51, ze_142_54, ze_142_54_s, ze_142_54_n, ze_142_55, ze_142_56, ze_142_58, ze_142_59, ze_142_59_r, ze_142_62, ze_142_65, ze_142_67, ze_142_68, ze_142_69, ze_142_72, ze_142_78, ze_142_78_n, ze_142_79, ze_142_79_n, ze_142_81, ze_142_82, ze_142_83, ze_142_83_n, ze_142_85, ze_142_86, ze_142_87, ze_142_87_n, ze_142_89, ze_142_90, ze_142_91, ze_142_91_n, ze_142_93, ze_142_94, ze_142_95, ze_142_95_n, ze_142_97, ze_142_98, ze_142_99, ze_142_102, ze_142_103, ze_142_106, ze_142_107, ze_142_108, ze_142_111, ze_142_114, ze_142_115, z_k_r, z_push_s, z_push_n, okS_0, okS_I, okS_R, okS_A, List.getElem?_cons_zero, List.getElem?_cons_succ, List.length_cons, List.length_nil, List.set_cons_zero, List.set_cons_succ, true_and, and_true, z_tI, z_tB, pk_mul, nI_add, cI_cl, cI_ix, nar_0, nar_1, nar_b, Nat.reduceAdd, Nat.reduceLT, Nat.reduceMul, cI_lt, cI_eq, ↓reduceIte, if_true, if_false, Nat.lt_irrefl, eq_self, Nat.reduceEqDiff, or_true, true_or, or_false, false_or, not_false_eq_true, not_true_eq_false, ce_5, zb_t, zb_f, hj, dv, l1, so, hd0, ↓ln, z, ↓ca, s1]
      exact go
    · have ch : chF u len k j = 32 := if_neg z
      rw [ch] at go
      simp (disch := omega) only [ze_142_0, ze_142_1, ze_142_2, ze_142_3, ze_142_4, ze_142_5, ze_142_5_s, ze_142_5_n, ze_142_6, ze_142_6_r, ze_142_9, ze_142_12, ze_142_13, ze_142_15, ze_142_15_n, ze_142_17, ze_142_18, ze_142_22, ze_142_24, ze_142_27, ze_142_27_n, ze_142_29, ze_142_31, ze_142_32, ze_142_33, ze_142_33_n, ze_142_35, ze_142_37, ze_142_38, ze_142_39, ze_142_40, ze_142_42, ze_142_43, ze_142_44, ze_142_46, ze_142_47, ze_142_47_s, ze_142_47_n, ze_142_48, ze_142_48_r, ze_142_51, ze_142_54, ze_142_54_s, ze_142_54_n, ze_142_55, ze_142_56, ze_142_58, ze_142_59, ze_142_59_r, ze_142_62, ze_142_65, ze_142_67, ze_142_68, ze_142_69, ze_142_72, ze_142_78, ze_142_78_n, ze_142_79, ze_142_79_n, ze_142_81, ze_142_82, ze_142_83, ze_142_83_n, ze_142_85, ze_142_86, ze_142_87, ze_142_87_n, ze_142_89, ze_142_90, ze_142_91, ze_142_91_n, ze_142_93, ze_142_94, ze_142_95, ze_142_95_n, ze_142_97, ze_142_98, ze_142_99, ze_142_102, ze_142_103, ze_142_106, ze_142_107, ze_142_108, ze_142_111, ze_142_114, ze_142_115, z_k_r, z_push_s, z_push_n, okS_0, okS_I, okS_R, okS_A, List.getElem?_cons_zero, List.getElem?_cons_succ, List.length_cons, List.length_nil, List.set_cons_zero, List.set_cons_succ, true_and, and_true, z_tI, z_tB, pk_mul, nI_add, cI_cl, cI_ix, nar_0, nar_1, nar_b, Nat.reduceAdd, Nat.reduceLT, Nat.reduceMul, cI_lt, cI_eq, ↓reduceIte, if_true, if_false, Nat.lt_irrefl, eq_self, Nat.reduceEqDiff, or_true, true_or, or_false, false_or, not_false_eq_true, not_true_eq_false, ce_5, zb_t, zb_f, hj, dv, l1, so, hd0, ↓ln, z, s1]
      exact go
theorem l_feeds1 (hd : 20 < d) (hB : B + 47 ≤ Q) (hl : len ≤ 240) (hu : ∀ j, u j < 128) (hs : Q + NL S ≤ s) (hw : Q + NL S ≤ w) : ∀ (m k : Nat) (f : Nat → Option z_C) (N x y : Nat) (tb : Nat → Nat) (v4 v5 : Value), len ≤ k + 20 * m → k ≤ len + 20 → CB f B S9 k tb → (∀ j, j < k → j < len → tb j = u j) → f s = some (stF w) → f w = some (byA len u) → s < N → w < N → Q + NL S ≤ N → (∀ f' N' x' y' k' tb', CB f' B S9 k' tb' → len ≤ k' → (∀ j, j < len → tb' j = u j) → (∀ z, z < N → (z < B ∨ B + 47 ≤ z) → f' z = f z) → N ≤ N' → x' ≤ x + m → y' ≤ y + 5 * m → P (.inr (some (.int (nI 1))), (lgw f' Q S X, some N', x', y'))) → z_T g d 142 4 [.ref B, .ref s, .int (nI k), .int (nI k), v4, v5] [] (lgw f Q S X, some N, x, y) P := by
  intro m
  induction m with
  | zero =>
    intro k f N x y tb v4 v5 h hk hCB ht h1 h2 h3 h4 h5 hP
    have hd0 : 0 < d := by omega
    have hs2 : lgw f Q S X s = some (stF w) := by rw [lg_o (.inr hs)]; exact h1
    have hw2 : lgw f Q S X w = some (byA len u) := by rw [lg_o (.inr hw)]; exact h2
    have ln := fun P => j_len (g := g) (d := d - 1) (q := (some N, x, y)) (P := P) hs2 hw2 (by omega)
    have so := st_O hs2
    have ge : ¬ k < len := by omega
    have := hP f N x y k tb hCB (by omega) (fun j hj => ht j (by omega) hj) (fun _ _ _ => rfl) (Nat.le_refl _) (by omega) (by omega)
    rw [ze_142_4]
    simp (disch := omega) only [ze_142_0, ze_142_1, ze_142_2, ze_142_3, ze_142_5, ze_142_5_s, ze_142_5_n, ze_142_6, ze_142_6_r, ze_142_9, ze_142_12, ze_142_13, ze_142_15, ze_142_15_n, ze_142_17, ze_142_18, ze_142_20, ze_142_22, ze_142_24, ze_142_27, ze_142_27_n, ze_142_29, ze_142_31, ze_142_32, ze_142_33, ze_142_33_n, ze_142_35, ze_142_37, ze_142_38, ze_142_39, ze_142_40, ze_142_42, ze_142_43, ze_142_44, ze_142_46, ze_142_47, ze_142_47_s, ze_142_47_n, ze_142_48, ze_142_48_r, ze_142_51, ze_142_54, ze_142_54_s, ze_142_54_n, ze_142_55, ze_142_56, ze_142_58, ze_142_59, ze_142_59_r, ze_142_62, ze_142_65, ze_142_67, ze_142_68, ze_142_69, ze_142_72, ze_142_75, ze_142_78, ze_142_78_n, ze_142_79, ze_142_79_n, ze_142_81, ze_142_82, ze_142_83, ze_142_83_n, ze_142_85, ze_142_86, ze_142_87, ze_142_87_n, ze_142_89, ze_142_90, ze_142_91, ze_142_91_n, ze_142_93, ze_142_94, ze_142_95, ze_142_95_n, ze_142_97, ze_142_98, ze_142_99, ze_142_102, ze_142_103, ze_142_106, ze_142_107, ze_142_108, ze_142_111, ze_142_114, ze_142_115, z_k_r, z_push_s, z_push_n, okS_0, okS_I, okS_R, okS_A, List.getElem?_cons_zero, List.getElem?_cons_succ, List.length_cons, List.length_nil, List.set_cons_zero, List.set_cons_succ, true_and, and_true, z_tI, z_tB, pk_mul, nI_add, cI_cl, cI_ix, nar_0, nar_1, nar_b, Nat.reduceAdd, Nat.reduceLT, Nat.reduceMul, cI_lt, cI_eq, ↓reduceIte, if_true, if_false, Nat.lt_irrefl, eq_self, Nat.reduceEqDiff, or_true, true_or, or_false, false_or, not_false_eq_true, not_true_eq_false, ce_5, zb_t, zb_f, so, hd0, ↓ln, ge]
    exact this
  | succ m ih =>
    intro k f N x y tb v4 v5 h hk hCB ht h1 h2 h3 h4 h5 hP
    have hd0 : 0 < d := by omega
    have hs2 : lgw f Q S X s = some (stF w) := by rw [lg_o (.inr hs)]; exact h1
    have hw2 : lgw f Q S X w = some (byA len u) := by rw [lg_o (.inr hw)]; exact h2
    have ln := fun P => j_len (g := g) (d := d - 1) (q := (some N, x, y)) (P := P) hs2 hw2 (by omega)
    have so := st_O hs2
    rw [ze_142_4]
    by_cases z : k < len
    · have up := fun c => lgw_up (f := f) (Q := Q) (N := N) (S := S) (X := X) (c := c) (.inr h5)
      have fj := l_fj (g := g) (d := d) (B := B) (P := P) (X := X) (q := (some (N + 1), x + 1, y + 5)) (f := f) (a := N) (k := k) (v2 := .int (nI k)) (by omega) h5 (.inr hs) (.inr hw) (by omega) (by omega) h1 h2 hl z hu 20 0 (Nat.zero_add _)
      obtain ⟨f1, hf1⟩ : ∃ f1, f1 = z_up f N (inA 5 (gj (chF u len k) 20)) := ⟨_, rfl⟩
      have hCB1 : CB f1 B S9 k tb := hCB.ag fun y h1 h2 => by rw [hf1, z_up_ne (by omega)]
      have l1 : ∀ (i : Nat) (K : Int32 → Prop), i < 5 → z_aL (lgw f1 Q S X) N z_tI (nI i) K = K (gj (chF u len k) 20 i) := fun i K hi => by
        rw [hf1, th_aL (.inr h5), iA_L (z_up_self _ _ _) hi (by omega)]
      have cO := hCB1.O hB S X
      have c500 : ∀ j, tbF tb u len k j < 256 := fun j => by
        obtain ⟨G, I, A, hI, -⟩ := hCB
        have tl := hI.2.2.2.1.2.2.1 j
        unfold tbF
        split
        · split
          · have := hu j; omega
          · omega
        · exact tl
      obtain ⟨f2, k1, k2, k3⟩ := hCB1.call (g := g) (d := d - 1) (tb' := tbF tb u len k) (len' := k + 20) hB (fun f G I A hI => by
        obtain ⟨I', A', c1, c2⟩ := xo_append (g := g) (d := d - 1) (f := f) (B := B) hI (by omega) (by omega) (gj (chF u len k) 20 0) (gj (chF u len k) 20 1) (gj (chF u len k) 20 2) (gj (chF u len k) 20 3) (gj (chF u len k) 20 4) (tb' := tbF tb u len k) c500 (fun i _ => ap20_ch hu i)
        exact ⟨G, I', A', c1, c2⟩) S X
      have fin := ih (k + 20) f2 (N + 1) (x + 1) (y + 5) (tbF tb u len k) (.ref N) (.int (nI 20)) (by omega) (by omega) k1 (fun j hj1 hj2 => by
        unfold tbF
        by_cases c : k ≤ j ∧ j < k + 20
        · rw [if_pos c, if_pos hj2]
        · rw [if_neg c]
          exact ht j (by omega) hj2) (by rw [k2 s (by omega), hf1, z_up_ne (by omega)]; exact h1) (by rw [k2 w (by omega), hf1, z_up_ne (by omega)]; exact h2) (by omega) (by omega) (by omega) (fun f' N' x' y' k' tb' a b c e p q r => hP f' N' x' y' k' tb' a b c (fun v hv hv2 => by rw [e v (by omega) hv2, k2 v hv2, hf1, z_up_ne (by omega)]) (by omega) (by omega) (by omega))
      simp (disch := omega) only [ze_142_0, ze_142_1, ze_142_2, ze_142_3, ze_142_5, ze_142_5_s, ze_142_5_n, ze_142_6, ze_142_6_r, ze_142_9, ze_142_12, ze_142_13, ze_142_15, ze_142_15_n, ze_142_17, ze_142_18, ze_142_22, ze_142_24, ze_142_27, ze_142_27_n, ze_142_29, ze_142_31, ze_142_32, ze_142_33, ze_142_33_n, ze_142_35, ze_142_37, ze_142_38, ze_142_39, ze_142_40, ze_142_42, ze_142_43, ze_142_44, ze_142_46, ze_142_47, ze_142_47_s, ze_142_47_n, ze_142_48, ze_142_48_r, ze_142_51, ze_142_54, ze_142_54_s, ze_142_54_n, ze_142_55, ze_142_56, ze_142_58, ze_142_59, ze_142_59_r, ze_142_62, ze_142_65, ze_142_67, ze_142_68, ze_142_69, ze_142_72, ze_142_75, ze_142_78, ze_142_78_n, ze_142_79, ze_142_79_n, ze_142_81, ze_142_82, ze_142_83, ze_142_83_n, ze_142_85, ze_142_86, ze_142_87, ze_142_87_n, ze_142_89, ze_142_90, ze_142_91, ze_142_91_n, ze_142_93, ze_142_94, ze_142_95, ze_142_95_n, ze_142_97, ze_142_98, ze_142_99, ze_142_102, ze_142_103, ze_142_106, ze_142_107, ze_142_108, ze_142_111, ze_142_114, ze_142_115, z_k_r, z_push_s, z_push_n, okS_0, okS_I, okS_R, okS_A, List.getElem?_cons_zero, List.getElem?_cons_succ, List.length_cons, List.length_nil, List.set_cons_zero, List.set_cons_succ, true_and, and_true, z_tI, z_tB, pk_mul, nI_add, cI_cl, cI_ix, nar_0, nar_1, nar_b, Nat.reduceAdd, Nat.reduceLT, Nat.reduceMul, cI_lt, cI_eq, ↓reduceIte, if_true, if_false, Nat.lt_irrefl, eq_self, Nat.reduceEqDiff, or_true, true_or, or_false, false_or, not_false_eq_true, not_true_eq_false, ce_5, zb_t, zb_f, so, hd0, ↓ln, z, nA_i, up]
      rw [show z_up f N (.inl (.int, 5, .inl fun _ => 0)) = z_up f N (inA 5 (gj (chF u len k) 0)) from rfl, fj, ← hf1]
      simp (disch := omega) only [ze_142_0, ze_142_1, ze_142_2, ze_142_3, ze_142_5, ze_142_5_s, ze_142_5_n, ze_142_6, ze_142_6_r, ze_142_9, ze_142_12, ze_142_13, ze_142_15, ze_142_15_n, ze_142_17, ze_142_18, ze_142_22, ze_142_24, ze_142_27, ze_142_27_n, ze_142_29, ze_142_31, ze_142_32, ze_142_33, ze_142_33_n, ze_142_35, ze_142_37, ze_142_38, ze_142_39, ze_142_40, ze_142_42, ze_142_43, ze_142_44, ze_142_46, ze_142_47, ze_142_47_s, ze_142_47_n, ze_142_48, ze_142_48_r, ze_142_51, ze_142_54, ze_142_54_s, ze_142_54_n, ze_142_55, ze_142_56, ze_142_58, ze_142_59, ze_142_59_r, ze_142_62, ze_142_65, ze_142_67, ze_142_68, ze_142_69, ze_142_72, ze_142_75, ze_142_78, ze_142_78_n, ze_142_79, ze_142_79_n, ze_142_81, ze_142_82, ze_142_83, ze_142_83_n, ze_142_85, ze_142_86, ze_142_87, ze_142_87_n, ze_142_89, ze_142_90, ze_142_91, ze_142_91_n, ze_142_93, ze_142_94, ze_142_95, ze_142_95_n, ze_142_97, ze_142_98, ze_142_99, ze_142_102, ze_142_103, ze_142_106, ze_142_107, ze_142_108, ze_142_111, ze_142_114, ze_142_115, z_k_r, z_push_s, z_push_n, okS_0, okS_I, okS_R, okS_A, List.getElem?_cons_zero, List.getElem?_cons_succ, List.length_cons, List.length_nil, List.set_cons_zero, List.set_cons_succ, true_and, and_true, z_tI, z_tB, pk_mul, nI_add, cI_cl, cI_ix, nar_0, nar_1, nar_b, Nat.reduceAdd, Nat.reduceLT, Nat.reduceMul, cI_lt, cI_eq, ↓reduceIte, if_true, if_false, Nat.lt_irrefl, eq_self, Nat.reduceEqDiff, or_true, true_or, or_false, false_or, not_false_eq_true, not_true_eq_false, ce_5, zb_t, zb_f, l1, cO, hd0, ↓k3]
      exact fin
    · have := hP f N x y k tb hCB (by omega) (fun j hj => ht j (by omega) hj) (fun _ _ _ => rfl) (Nat.le_refl _) (by omega) (by omega)
      simp (disch := omega) only [ze_142_0, ze_142_1, ze_142_2, ze_142_3, ze_142_5, ze_142_5_s, ze_142_5_n, ze_142_6, ze_142_6_r, ze_142_9, ze_142_12, ze_142_13, ze_142_15, ze_142_15_n, ze_142_17, ze_142_18, ze_142_20, ze_142_22, ze_142_24, ze_142_27, ze_142_27_n, ze_142_29, ze_142_31, ze_142_32, ze_142_33, ze_142_33_n, ze_142_35, ze_142_37, ze_142_38, ze_142_39, ze_142_40, ze_142_42, ze_142_43, ze_142_44, ze_142_46, ze_142_47, ze_142_47_s, ze_142_47_n, ze_142_48, ze_142_48_r, ze_142_51, ze_142_54, ze_142_54_s, ze_142_54_n, ze_142_55, ze_142_56, ze_142_58, ze_142_59, ze_142_59_r, ze_142_62, ze_142_65, ze_142_67, ze_142_68, ze_142_69, ze_142_72, ze_142_75, ze_142_78, ze_142_78_n, ze_142_79, ze_142_79_n, ze_142_81, ze_142_82, ze_142_83, ze_142_83_n, ze_142_85, ze_142_86, ze_142_87, ze_142_87_n, ze_142_89, ze_142_90, ze_142_91, ze_142_91_n, ze_142_93, ze_142_94, ze_142_95, ze_142_95_n, ze_142_97, ze_142_98, ze_142_99, ze_142_102, ze_142_103, ze_142_106, ze_142_107, ze_142_108, ze_142_111, ze_142_114, ze_142_115, z_k_r, z_push_s, z_push_n, okS_0, okS_I, okS_R, okS_A, List.getElem?_cons_zero, List.getElem?_cons_succ, List.length_cons, List.length_nil, List.set_cons_zero, List.set_cons_succ, true_and, and_true, z_tI, z_tB, pk_mul, nI_add, cI_cl, cI_ix, nar_0, nar_1, nar_b, Nat.reduceAdd, Nat.reduceLT, Nat.reduceMul, cI_lt, cI_eq, ↓reduceIte, if_true, if_false, Nat.lt_irrefl, eq_self, Nat.reduceEqDiff, or_true, true_or, or_false, false_or, not_false_eq_true, not_true_eq_false, ce_5, zb_t, zb_f, so, hd0, ↓ln, z]
      exact this
end
