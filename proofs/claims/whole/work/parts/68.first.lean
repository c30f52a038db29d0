/-! the first completion, on both sides -/
def fsO {α : Type} (F : Nat → Option α) : Nat → Nat → Option α
  | _, 0 => none
  | i, k + 1 => match F i with
    | some x => some x
    | none => fsO F (i + 1) k
theorem fsO_s {α : Type} {F : Nat → Option α} {i k : Nat} {x : α} (h : F i = some x) : fsO F i (k + 1) = some x := by
  unfold fsO
  rw [h]
theorem fsO_n {α : Type} {F : Nat → Option α} {i k : Nat} (h : F i = none) : fsO F i (k + 1) = fsO F (i + 1) k := by
  conv => lhs; unfold fsO
  rw [h]
theorem fsO_at {α : Type} {F : Nat → Option α} {x : α} : ∀ (m k i : Nat), (∀ j, i ≤ j → j < i + m → F j = none) → F (i + m) = some x → fsO F i (m + (k + 1)) = some x
  | 0, k, i, h1, h2 => by rw [Nat.zero_add]; exact fsO_s h2
  | m + 1, k, i, h1, h2 => by
    rw [show m + 1 + (k + 1) = (m + (k + 1)) + 1 by omega, fsO_n (h1 i (Nat.le_refl _) (by omega))]
    exact fsO_at m k (i + 1) (fun j a b => h1 j (by omega) (by omega)) (by rw [show i + 1 + m = i + (m + 1) by omega]; exact h2)
section
variable (R C : Nat) (b : Nat → Nat → Bool)
/-- the first way to fill the empty cells from i on -/
def fcp : Nat → Nat → (Nat → Nat) → Option (Nat → Nat)
  | 0, _, c => some c
  | n + 1, i, c => if inR R C i = true ∧ c i = 5 then fsO (fun s => if cdk C b c i s = true then fcp n (i + 1) (nu c i s) else none) 0 C else fcp n (i + 1) c
end
theorem fs_sm {α : Type} {F : Nat → Option α} {p : Nat → Nat} : ∀ (k i : Nat), (∀ s, i ≤ s → s < i + k → (F s = none ↔ p s = 0)) → (fsO F i k = none ↔ sm p i k = 0)
  | 0, i, h => ⟨fun _ => rfl, fun _ => rfl⟩
  | k + 1, i, h => by
    have h0 := h i (Nat.le_refl _) (by omega)
    have ih := fs_sm (F := F) (p := p) k (i + 1) (fun s a b => h s (by omega) (by omega))
    rw [sm_s]
    cases e : F i with
    | none =>
      rw [fsO_n e, ih]
      have := h0.mp e
      omega
    | some x =>
      rw [fsO_s e]
      have : p i ≠ 0 := fun z => by
        rw [h0.mpr z] at e
        cases e
      exact ⟨fun z => by (exact absurd z (by simp)), fun z => by omega⟩
theorem fcp_cp {R C : Nat} {b : Nat → Nat → Bool} : ∀ (n i : Nat) (c : Nat → Nat), fcp R C b n i c = none ↔ cp R C b n i c = 0
  | 0, i, c => ⟨fun z => by (exact absurd z (by simp [fcp])), fun z => by (exact absurd z (by simp [cp]))⟩
  | n + 1, i, c => by
    unfold fcp cp
    by_cases h : inR R C i = true ∧ c i = 5
    · rw [if_pos h, if_pos h]
      refine fs_sm C 0 fun s _ _ => ?_
      by_cases e : cdk C b c i s = true
      · rw [if_pos e, if_pos e]
        exact fcp_cp n (i + 1) _
      · rw [if_neg e, if_neg e]
        exact ⟨fun _ => rfl, fun _ => rfl⟩
    · rw [if_neg h, if_neg h]
      exact fcp_cp n (i + 1) c
theorem fsO_ex {α : Type} {F : Nat → Option α} {x : α} : ∀ (k i : Nat), fsO F i k = some x → ∃ s, i ≤ s ∧ s < i + k ∧ F s = some x
  | 0, i, h => by cases h
  | k + 1, i, h => by
    cases e : F i with
    | none =>
      rw [fsO_n e] at h
      obtain ⟨s, a, b, c⟩ := fsO_ex k (i + 1) h
      exact ⟨s, by omega, by omega, c⟩
    | some y =>
      rw [fsO_s e] at h
      cases h
      exact ⟨i, by omega, by omega, e⟩
/-- what lies ahead stays -/
theorem fcp_keep {R C : Nat} {b : Nat → Nat → Bool} : ∀ (n i : Nat) (c F : Nat → Nat), fcp R C b n i c = some F → ∀ k, k < i → F k = c k
  | 0, i, c, F, h, k, hk => by
    unfold fcp at h
    cases h
    rfl
  | n + 1, i, c, F, h, k, hk => by
    unfold fcp at h
    split at h
    · obtain ⟨s, s1, s2, s3⟩ := fsO_ex _ _ h
      split at s3
      · rw [fcp_keep n (i + 1) _ F s3 k (by omega), nu_n (by omega)]
      · cases s3
    · exact fcp_keep n (i + 1) c F h k (by omega)
section
variable {g : z_G} {d : Nat} {f : Nat → Option z_C} {m : Nat} {I : Nat → Int32}
theorem mc_7 (A : Nat → Nat → Int32) {F F' : Nat → Int32} (h : ∀ k, k < 25 → F k = F' k) : mw f m I (uA A 7 F) = mw f m I (uA A 7 F') := by
  refine mw_congr f m I _ (fun _ _ => rfl) (fun _ _ => rfl) (fun _ _ => rfl) (fun _ _ => rfl) (fun _ _ => rfl) (fun _ _ => rfl) (fun _ _ => rfl) (fun k hk => ?_) (fun _ _ => rfl) (fun _ _ => rfl) (fun _ _ => rfl) (fun _ _ => rfl) (fun _ _ => rfl)
  rw [uA_s, uA_s]
  exact h k hk
/-- what the reference keeps of a first completion -/
def cmA (kp : Bool) (o : Option (Nat → Nat)) (A : Nat → Nat → Int32) : Nat → Nat → Int32 := match kp, o with
  | true, some F => uA A 7 (fun k => ce (F k))
  | _, _ => A
theorem cmA_f (o : Option (Nat → Nat)) (A : Nat → Nat → Int32) : cmA false o A = A := by cases o <;> rfl
theorem cmA_n (kp : Bool) (A : Nat → Nat → Int32) : cmA kp none A = A := by cases kp <;> rfl
theorem MH_cmA {A : Nat → Nat → Int32} {S : GS} (kp : Bool) (o : Option (Nat → Nat)) (h : MH I A S) : MH I (cmA kp o A) S := by
  cases kp
  · rw [cmA_f]; exact h
  · cases o
    · exact h
    · obtain ⟨h1, h2, h3, h4⟩ := h
      exact ⟨h1, h2, fun k hk => h3 k hk, fun k hk => h4 k hk⟩
theorem m_keep1 {A : Nat → Nat → Int32} {c : Nat → Nat} (hA : ∀ k, k < 25 → A 5 k = ce (c k)) {v0 v1 v6 v7 : Value} {x : Int32} : ∀ (k i : Nat) (F : Nat → Int32) (q : Option Nat × Nat × Nat) (P : z_Res → Prop), i + k = 25 → (∀ j, j < i → F j = ce (c j)) → z_T g d 167 59 [.ref m, v0, v1, .int (nI 1), .int x, .int (nI i), v6, v7] [] (mw f m I (uA A 7 F), q) P = P (.inr (some (.int (nI 1))), (mw f m I (uA A 7 fun k => ce (c k)), q))
  | 0, i, F, q, P, h, hF => by
    have : i = 25 := by omega
    subst this
    rw [ze_167_59]
    simp (disch := omega) only [ze_167_0, ze_167_1, ze_167_3, ze_167_5, ze_167_7, ze_167_10, ze_167_12, ze_167_13, ze_167_14, ze_167_15, ze_167_18, ze_167_21, ze_167_23, ze_167_24, ze_167_25, ze_167_26, ze_167_29, ze_167_32, ze_167_33, ze_167_36, ze_167_38, ze_167_39, ze_167_40, ze_167_43, ze_167_46, ze_167_49, ze_167_51, ze_167_53, ze_167_56, ze_167_57, ze_167_61, ze_167_63, ze_167_66, ze_167_67, ze_167_70, ze_167_71, ze_167_74, ze_167_76, ze_167_77, ze_167_80, ze_167_82, ze_167_83, ze_167_84, ze_167_87, ze_167_90, ze_167_91, ze_167_92, ze_167_93, ze_167_95, ze_167_96, ze_167_98, ze_167_99, ze_167_100, ze_167_102, ze_167_103, ze_167_104, ze_167_107, ze_167_109, ze_167_110, ze_167_112, ze_167_114, ze_167_115, ze_167_118, ze_167_121, ze_167_123, ze_167_124, ze_167_127, ze_167_129, ze_167_131, ze_167_132, ze_167_133, ze_167_134, ze_167_135, ze_167_138, ze_167_139, ze_167_142, ze_167_144, ze_167_146, ze_167_147, ze_167_149, ze_167_150, ze_167_152, ze_167_153, ze_167_154, ze_167_155, ze_167_157, ze_167_158, ze_167_159, ze_167_162, ze_167_164, ze_167_167, ze_167_168, ze_167_171, ze_167_172, ze_167_175, ze_167_176, ze_167_178, ze_167_179, ze_167_182, ze_167_184, ze_167_185, ze_167_186, ze_167_189, ze_167_192, ze_167_194, z_k_r, z_push_s, z_push_n, okS_0, okS_I, okS_R, okS_A, List.getElem?_cons_zero, List.getElem?_cons_succ, List.length_cons, List.length_nil, List.set_cons_zero, List.set_cons_succ, true_and, and_true, z_tI, z_tB, pk_mul, nI_add, cI_cl, cI_ix, nar_0, nar_1, nar_b, Nat.reduceAdd, Nat.reduceLT, Nat.reduceMul, ↓mg_0, ↓mg_1, ↓mg_2, ↓mg_3, ↓mg_4, ↓mg_5, ↓mg_6, ↓mg_7, ↓mg_8, ↓mg_9, ↓mg_10, ↓mg_11, ↓mg_12, ↓mg_13, ↓mg_14, ↓mg_15, ↓mg_16, ↓mg_17, ↓mg_18, ↓mg_19, ↓mg_20, ↓mg_21, ↓mg_22, ↓mg_23, ↓mg_24, ↓mg_25, ↓mg_26, ↓mg_27, ↓mg_28, mp_0, mp_1, mp_2, mp_3, mp_4, mp_5, mp_6, mp_13, mp_14, mp_15, mp_16, mp_17, mp_18, mp_19, mp_20, mp_21, mp_23, mL_1, mL_2, mL_3, mL_4, mL_5, mL_6, mL_7, mL_8, mL_9, mL_10, mL_11, mL_12, mS_1, mS_2, mS_3, mS_4, mS_5, mS_6, mS_7, mS_8, mS_9, mS_10, mS_11, mS_12, m_gO, uA_s, uA_n, cI_lt, cI_eq, ↓reduceIte, if_true, if_false, Nat.lt_irrefl, eq_self, Nat.reduceEqDiff, or_true, true_or, or_false, false_or, not_false_eq_true, not_true_eq_false, ce_5, zb_t, zb_f]
    rw [mc_7 A hF]
  | k + 1, i, F, q, P, h, hF => by
    have hi : i < 25 := by omega
    rw [ze_167_59]
    simp (disch := omega) only [ze_167_0, ze_167_1, ze_167_3, ze_167_5, ze_167_7, ze_167_10, ze_167_12, ze_167_13, ze_167_14, ze_167_15, ze_167_18, ze_167_21, ze_167_23, ze_167_24, ze_167_25, ze_167_26, ze_167_29, ze_167_32, ze_167_33, ze_167_36, ze_167_38, ze_167_39, ze_167_40, ze_167_43, ze_167_46, ze_167_49, ze_167_51, ze_167_53, ze_167_56, ze_167_57, ze_167_61, ze_167_63, ze_167_66, ze_167_67, ze_167_70, ze_167_71, ze_167_74, ze_167_76, ze_167_77, ze_167_80, ze_167_82, ze_167_83, ze_167_84, ze_167_87, ze_167_90, ze_167_91, ze_167_92, ze_167_93, ze_167_95, ze_167_96, ze_167_98, ze_167_99, ze_167_100, ze_167_102, ze_167_103, ze_167_104, ze_167_107, ze_167_109, ze_167_110, ze_167_112, ze_167_114, ze_167_115, ze_167_118, ze_167_121, ze_167_123, ze_167_124, ze_167_127, ze_167_129, ze_167_131, ze_167_132, ze_167_133, ze_167_134, ze_167_135, ze_167_138, ze_167_139, ze_167_142, ze_167_144, ze_167_146, ze_167_147, ze_167_149, ze_167_150, ze_167_152, ze_167_153, ze_167_154, ze_167_155, ze_167_157, ze_167_158, ze_167_159, ze_167_162, ze_167_164, ze_167_167, ze_167_168, ze_167_171, ze_167_172, ze_167_175, ze_167_176, ze_167_178, ze_167_179, ze_167_182, ze_167_184, ze_167_185, ze_167_186, ze_167_189, ze_167_192, ze_167_194, z_k_r, z_push_s, z_push_n, okS_0, okS_I, okS_R, okS_A, List.getElem?_cons_zero, List.getElem?_cons_succ, List.length_cons, List.length_nil, List.set_cons_zero, List.set_cons_succ, true_and, and_true, z_tI, z_tB, pk_mul, nI_add, cI_cl, cI_ix, nar_0, nar_1, nar_b, Nat.reduceAdd, Nat.reduceLT, Nat.reduceMul, ↓mg_0, ↓mg_1, ↓mg_2, ↓mg_3, ↓mg_4, ↓mg_5, ↓mg_6, ↓mg_7, ↓mg_8, ↓mg_9, ↓mg_10, ↓mg_11, ↓mg_12, ↓mg_13, ↓mg_14, ↓mg_15, ↓mg_16, ↓mg_17, ↓mg_18, ↓mg_19, ↓mg_20, ↓mg_21, ↓mg_22, ↓mg_23, ↓mg_24, ↓mg_25, ↓mg_26, ↓mg_27, ↓mg_28, mp_0, mp_1, mp_2, mp_3, mp_4, mp_5, mp_6, mp_13, mp_14, mp_15, mp_16, mp_17, mp_18, mp_19, mp_20, mp_21, mp_23, mL_1, mL_2, mL_3, mL_4, mL_5, mL_6, mL_7, mL_8, mL_9, mL_10, mL_11, mL_12, mS_1, mS_2, mS_3, mS_4, mS_5, mS_6, mS_7, mS_8, mS_9, mS_10, mS_11, mS_12, m_gO, uA_s, uA_n, cI_lt, cI_eq, ↓reduceIte, if_true, if_false, Nat.lt_irrefl, eq_self, Nat.reduceEqDiff, or_true, true_or, or_false, false_or, not_false_eq_true, not_true_eq_false, ce_5, zb_t, zb_f, hi, upd_ne, uA_n, ne_eq, Nat.reduceEqDiff, hA, uA_uA]
    refine m_keep1 hA k (i + 1) _ q P (by omega) (fun j hj => ?_)
    by_cases e : j = i
    · rw [e, upd_at]
    · rw [upd_ne e]
      exact hF j (by omega)
theorem upd_m1 {F : Nat → Int32} {k : Nat} (h : F k = -1) (x : Int32) : upd (upd F k x) k (-1) = F := by
  rw [upd_upd, ← h, upd_eqI]
theorem uA_5m {A : Nat → Nat → Int32} {k : Nat} (h : A 5 k = -1) (x : Int32) (B : Nat → Nat → Int32) (hB : B 5 = upd (A 5) k x) (hB2 : ∀ j, j ≠ 5 → j ≠ 7 → B j = A j) : uA B 5 (upd (B 5) k (-1)) = uA A 7 (B 7) := by
  funext j
  unfold uA
  by_cases e : j = 5
  · rw [if_pos e, e, hB, upd_m1 h]
    rfl
  · rw [if_neg e]
    by_cases e2 : j = 7
    · rw [if_pos e2, e2]
    · rw [if_neg e2, hB2 j e e2]
theorem MH_put {A : Nat → Nat → Int32} {S : GS} (h : MH I A S) {r j s : Nat} (hs : s < 5) : MH I (uA A 5 (upd (A 5) (r * 5 + j) (nI s))) (S.put r j s) := by
  obtain ⟨h1, h2, h3, h4⟩ := h
  refine ⟨h1, h2, fun k hk => ?_, fun k hk => h4 k hk⟩
  show upd (A 5) (r * 5 + j) (nI s) k = ce (nu S.c (r * 5 + j) s k)
  by_cases e : k = r * 5 + j
  · rw [e, upd_at, nu_s, ce_lt hs]
  · rw [upd_ne e, nu_n e]
    exact h3 k hk
theorem cmA_back {A : Nat → Nat → Int32} {k : Nat} (h : A 5 k = -1) (x : Int32) (kp : Bool) (o : Option (Nat → Nat)) : uA (cmA kp o (uA A 5 (upd (A 5) k x))) 5 (upd (cmA kp o (uA A 5 (upd (A 5) k x)) 5) k (-1)) = cmA kp o A := by
  have base : uA (uA A 5 (upd (A 5) k x)) 5 (upd (uA A 5 (upd (A 5) k x) 5) k (-1)) = A := by
    rw [uA_s, uA_uA, upd_m1 h, uA_id]
  cases kp
  · rw [cmA_f, cmA_f]
    exact base
  · cases o
    · exact base
    · next F =>
      show uA (uA (uA A 5 (upd (A 5) k x)) 7 (fun k => ce (F k))) 5 (upd (uA (uA A 5 (upd (A 5) k x)) 7 (fun k => ce (F k)) 5) k (-1)) = uA A 7 (fun k => ce (F k))
      rw [uA_5m (A := A) (k := k) h x _ rfl (fun j a b => by unfold uA; rw [if_neg b, if_neg a])]
      rw [uA_s]
theorem m_comp : ∀ (n i d : Nat) (S : GS) (A : Nat → Nat → Int32) (L fr : Nat) (kp : Bool), MH I A S → GI S → i + n = 25 → n + 4 < d → 0 < L → L ≤ 1000 → ∀ (v5 v6 v7 : Value) (q : Option Nat × Nat × Nat) (P : z_Res → Prop), z_T g d 167 3 [.ref m, .int (nI fr), .int (nI L), .int (zb kp), .int (nI i), v5, v6, v7] [] (mw f m I A, q) P = P (.inr (some (.int (nI (min L (cp S.R S.C S.b n i S.c))))), (mw f m I (cmA kp (fcp S.R S.C S.b n i S.c) A), q))
  | 0, i, d, S, A, L, fr, kp, hM, hg, h, hd, hL, hL2, v5, v6, v7, q, P => by
    have : i = 25 := by omega
    subst this
    have e1 : min L (cp S.R S.C S.b 0 25 S.c) = 1 := by
      show min L 1 = 1
      omega
    rw [ze_167_3, e1]
    cases kp
    · rw [cmA_f]
      simp (disch := omega) only [ze_167_0, ze_167_1, ze_167_5, ze_167_7, ze_167_10, ze_167_12, ze_167_13, ze_167_14, ze_167_15, ze_167_18, ze_167_21, ze_167_23, ze_167_24, ze_167_25, ze_167_26, ze_167_29, ze_167_32, ze_167_33, ze_167_36, ze_167_38, ze_167_39, ze_167_40, ze_167_43, ze_167_46, ze_167_49, ze_167_51, ze_167_53, ze_167_56, ze_167_57, ze_167_61, ze_167_63, ze_167_66, ze_167_67, ze_167_70, ze_167_71, ze_167_74, ze_167_76, ze_167_77, ze_167_80, ze_167_82, ze_167_83, ze_167_84, ze_167_87, ze_167_90, ze_167_91, ze_167_92, ze_167_93, ze_167_95, ze_167_96, ze_167_98, ze_167_99, ze_167_100, ze_167_102, ze_167_103, ze_167_104, ze_167_107, ze_167_109, ze_167_110, ze_167_112, ze_167_114, ze_167_115, ze_167_118, ze_167_121, ze_167_123, ze_167_124, ze_167_127, ze_167_129, ze_167_131, ze_167_132, ze_167_133, ze_167_134, ze_167_135, ze_167_138, ze_167_139, ze_167_142, ze_167_144, ze_167_146, ze_167_147, ze_167_149, ze_167_150, ze_167_152, ze_167_153, ze_167_154, ze_167_155, ze_167_157, ze_167_158, ze_167_159, ze_167_162, ze_167_164, ze_167_167, ze_167_168, ze_167_171, ze_167_172, ze_167_175, ze_167_176, ze_167_178, ze_167_179, ze_167_182, ze_167_184, ze_167_185, ze_167_186, ze_167_189, ze_167_192, ze_167_194, z_k_r, z_push_s, z_push_n, okS_0, okS_I, okS_R, okS_A, List.getElem?_cons_zero, List.getElem?_cons_succ, List.length_cons, List.length_nil, List.set_cons_zero, List.set_cons_succ, true_and, and_true, z_tI, z_tB, pk_mul, nI_add, cI_cl, cI_ix, nar_0, nar_1, nar_b, Nat.reduceAdd, Nat.reduceLT, Nat.reduceMul, ↓mg_0, ↓mg_1, ↓mg_2, ↓mg_3, ↓mg_4, ↓mg_5, ↓mg_6, ↓mg_7, ↓mg_8, ↓mg_9, ↓mg_10, ↓mg_11, ↓mg_12, ↓mg_13, ↓mg_14, ↓mg_15, ↓mg_16, ↓mg_17, ↓mg_18, ↓mg_19, ↓mg_20, ↓mg_21, ↓mg_22, ↓mg_23, ↓mg_24, ↓mg_25, ↓mg_26, ↓mg_27, ↓mg_28, mp_0, mp_1, mp_2, mp_3, mp_4, mp_5, mp_6, mp_13, mp_14, mp_15, mp_16, mp_17, mp_18, mp_19, mp_20, mp_21, mp_23, mL_1, mL_2, mL_3, mL_4, mL_5, mL_6, mL_7, mL_8, mL_9, mL_10, mL_11, mL_12, mS_1, mS_2, mS_3, mS_4, mS_5, mS_6, mS_7, mS_8, mS_9, mS_10, mS_11, mS_12, m_gO, uA_s, uA_n, cI_lt, cI_eq, ↓reduceIte, if_true, if_false, Nat.lt_irrefl, eq_self, Nat.reduceEqDiff, or_true, true_or, or_false, false_or, not_false_eq_true, not_true_eq_false, ce_5, zb_t, zb_f]
      rw [ze_167_59]
      simp (disch := omega) only [ze_167_0, ze_167_1, ze_167_5, ze_167_7, ze_167_10, ze_167_12, ze_167_13, ze_167_14, ze_167_15, ze_167_18, ze_167_21, ze_167_23, ze_167_24, ze_167_25, ze_167_26, ze_167_29, ze_167_32, ze_167_33, ze_167_36, ze_167_38, ze_167_39, ze_167_40, ze_167_43, ze_167_46, ze_167_49, ze_167_51, ze_167_53, ze_167_56, ze_167_57, ze_167_61, ze_167_63, ze_167_66, ze_167_67, ze_167_70, ze_167_71, ze_167_74, ze_167_76, ze_167_77, ze_167_80, ze_167_82, ze_167_83, ze_167_84, ze_167_87, ze_167_90, ze_167_91, ze_167_92, ze_167_93, ze_167_95, ze_167_96, ze_167_98, ze_167_99, ze_167_100, ze_167_102, ze_167_103, ze_167_104, ze_167_107, ze_167_109, ze_167_110, ze_167_112, ze_167_114, ze_167_115, ze_167_118, ze_167_121, ze_167_123, ze_167_124, ze_167_127, ze_167_129, ze_167_131, ze_167_132, ze_167_133, ze_167_134, ze_167_135, ze_167_138, ze_167_139, ze_167_142, ze_167_144, ze_167_146, ze_167_147, ze_167_149, ze_167_150, ze_167_152, ze_167_153, ze_167_154, ze_167_155, ze_167_157, ze_167_158, ze_167_159, ze_167_162, ze_167_164, ze_167_167, ze_167_168, ze_167_171, ze_167_172, ze_167_175, ze_167_176, ze_167_178, ze_167_179, ze_167_182, ze_167_184, ze_167_185, ze_167_186, ze_167_189, ze_167_192, ze_167_194, z_k_r, z_push_s, z_push_n, okS_0, okS_I, okS_R, okS_A, List.getElem?_cons_zero, List.getElem?_cons_succ, List.length_cons, List.length_nil, List.set_cons_zero, List.set_cons_succ, true_and, and_true, z_tI, z_tB, pk_mul, nI_add, cI_cl, cI_ix, nar_0, nar_1, nar_b, Nat.reduceAdd, Nat.reduceLT, Nat.reduceMul, ↓mg_0, ↓mg_1, ↓mg_2, ↓mg_3, ↓mg_4, ↓mg_5, ↓mg_6, ↓mg_7, ↓mg_8, ↓mg_9, ↓mg_10, ↓mg_11, ↓mg_12, ↓mg_13, ↓mg_14, ↓mg_15, ↓mg_16, ↓mg_17, ↓mg_18, ↓mg_19, ↓mg_20, ↓mg_21, ↓mg_22, ↓mg_23, ↓mg_24, ↓mg_25, ↓mg_26, ↓mg_27, ↓mg_28, mp_0, mp_1, mp_2, mp_3, mp_4, mp_5, mp_6, mp_13, mp_14, mp_15, mp_16, mp_17, mp_18, mp_19, mp_20, mp_21, mp_23, mL_1, mL_2, mL_3, mL_4, mL_5, mL_6, mL_7, mL_8, mL_9, mL_10, mL_11, mL_12, mS_1, mS_2, mS_3, mS_4, mS_5, mS_6, mS_7, mS_8, mS_9, mS_10, mS_11, mS_12, m_gO, uA_s, uA_n, cI_lt, cI_eq, ↓reduceIte, if_true, if_false, Nat.lt_irrefl, eq_self, Nat.reduceEqDiff, or_true, true_or, or_false, false_or, not_false_eq_true, not_true_eq_false, ce_5, zb_t, zb_f]
    · simp (disch := omega) only [ze_167_0, ze_167_1, ze_167_5, ze_167_7, ze_167_10, ze_167_12, ze_167_13, ze_167_14, ze_167_15, ze_167_18, ze_167_21, ze_167_23, ze_167_24, ze_167_25, ze_167_26, ze_167_29, ze_167_32, ze_167_33, ze_167_36, ze_167_38, ze_167_39, ze_167_40, ze_167_43, ze_167_46, ze_167_49, ze_167_51, ze_167_53, ze_167_56, ze_167_57, ze_167_61, ze_167_63, ze_167_66, ze_167_67, ze_167_70, ze_167_71, ze_167_74, ze_167_76, ze_167_77, ze_167_80, ze_167_82, ze_167_83, ze_167_84, ze_167_87, ze_167_90, ze_167_91, ze_167_92, ze_167_93, ze_167_95, ze_167_96, ze_167_98, ze_167_99, ze_167_100, ze_167_102, ze_167_103, ze_167_104, ze_167_107, ze_167_109, ze_167_110, ze_167_112, ze_167_114, ze_167_115, ze_167_118, ze_167_121, ze_167_123, ze_167_124, ze_167_127, ze_167_129, ze_167_131, ze_167_132, ze_167_133, ze_167_134, ze_167_135, ze_167_138, ze_167_139, ze_167_142, ze_167_144, ze_167_146, ze_167_147, ze_167_149, ze_167_150, ze_167_152, ze_167_153, ze_167_154, ze_167_155, ze_167_157, ze_167_158, ze_167_159, ze_167_162, ze_167_164, ze_167_167, ze_167_168, ze_167_171, ze_167_172, ze_167_175, ze_167_176, ze_167_178, ze_167_179, ze_167_182, ze_167_184, ze_167_185, ze_167_186, ze_167_189, ze_167_192, ze_167_194, z_k_r, z_push_s, z_push_n, okS_0, okS_I, okS_R, okS_A, List.getElem?_cons_zero, List.getElem?_cons_succ, List.length_cons, List.length_nil, List.set_cons_zero, List.set_cons_succ, true_and, and_true, z_tI, z_tB, pk_mul, nI_add, cI_cl, cI_ix, nar_0, nar_1, nar_b, Nat.reduceAdd, Nat.reduceLT, Nat.reduceMul, ↓mg_0, ↓mg_1, ↓mg_2, ↓mg_3, ↓mg_4, ↓mg_5, ↓mg_6, ↓mg_7, ↓mg_8, ↓mg_9, ↓mg_10, ↓mg_11, ↓mg_12, ↓mg_13, ↓mg_14, ↓mg_15, ↓mg_16, ↓mg_17, ↓mg_18, ↓mg_19, ↓mg_20, ↓mg_21, ↓mg_22, ↓mg_23, ↓mg_24, ↓mg_25, ↓mg_26, ↓mg_27, ↓mg_28, mp_0, mp_1, mp_2, mp_3, mp_4, mp_5, mp_6, mp_13, mp_14, mp_15, mp_16, mp_17, mp_18, mp_19, mp_20, mp_21, mp_23, mL_1, mL_2, mL_3, mL_4, mL_5, mL_6, mL_7, mL_8, mL_9, mL_10, mL_11, mL_12, mS_1, mS_2, mS_3, mS_4, mS_5, mS_6, mS_7, mS_8, mS_9, mS_10, mS_11, mS_12, m_gO, uA_s, uA_n, cI_lt, cI_eq, ↓reduceIte, if_true, if_false, Nat.lt_irrefl, eq_self, Nat.reduceEqDiff, or_true, true_or, or_false, false_or, not_false_eq_true, not_true_eq_false, ce_5, zb_t, zb_f]
      have := fun v6 v7 => m_keep1 (g := g) (d := d) (f := f) (m := m) (I := I) (A := A) (c := S.c) (v0 := .int (nI fr)) (v1 := .int (nI L)) (v6 := v6) (v7 := v7) (x := nI 25) hM.2.2.1 25 0 (A 7) q P (by omega) (fun j hj => by omega)
      rw [uA_id] at this
      exact this _ _
  | n + 1, i, d, S, A, L, fr, kp, hM, hg, h, hd, hL, hL2, v5, v6, v7, q, P => by
    have hC := hg.C5
    have hR := hg.RC
    have h1 := hM.1
    have h2 := hM.2.1
    have h3 := hM.2.2.1
    have hi : i < 25 := by omega
    have hi2 : ¬ i = 25 := by omega
    have hd0 : 0 < d := by omega
    have e5 := ce_em (hg.c5 i)
    have em : nI i - nI (i / 5 * 5) = nI (i % 5) := by rw [cI_sub (by omega)]; congr 1; omega
    have skip : ¬ (inR S.R S.C i = true ∧ S.c i = 5) → z_T g d 167 3 [.ref m, .int (nI fr), .int (nI L), .int (zb kp), .int (nI (i + 1)), v5, v6, v7] [] (mw f m I A, q) P = P (.inr (some (.int (nI (min L (cp S.R S.C S.b (n + 1) i S.c))))), (mw f m I (cmA kp (fcp S.R S.C S.b (n + 1) i S.c) A), q)) := fun z => by
      rw [m_comp n (i + 1) d S A L fr kp hM hg (by omega) (by omega) hL hL2 v5 v6 v7 q P]
      conv => rhs; unfold cp fcp
      rw [if_neg z, if_neg z]
    rw [ze_167_3]
    simp (disch := omega) only [ze_167_0, ze_167_1, ze_167_5, ze_167_7, ze_167_10, ze_167_12, ze_167_13, ze_167_14, ze_167_15, ze_167_18, ze_167_21, ze_167_23, ze_167_24, ze_167_25, ze_167_26, ze_167_29, ze_167_32, ze_167_33, ze_167_36, ze_167_38, ze_167_39, ze_167_40, ze_167_43, ze_167_46, ze_167_49, ze_167_51, ze_167_53, ze_167_56, ze_167_57, ze_167_61, ze_167_63, ze_167_66, ze_167_67, ze_167_70, ze_167_71, ze_167_74, ze_167_76, ze_167_77, ze_167_80, ze_167_82, ze_167_83, ze_167_84, ze_167_87, ze_167_90, ze_167_91, ze_167_92, ze_167_93, ze_167_95, ze_167_96, ze_167_98, ze_167_99, ze_167_100, ze_167_102, ze_167_103, ze_167_104, ze_167_107, ze_167_109, ze_167_110, ze_167_114, ze_167_115, ze_167_118, ze_167_121, ze_167_123, ze_167_124, ze_167_127, ze_167_129, ze_167_131, ze_167_132, ze_167_133, ze_167_134, ze_167_135, ze_167_138, ze_167_139, ze_167_142, ze_167_144, ze_167_146, ze_167_147, ze_167_149, ze_167_150, ze_167_152, ze_167_153, ze_167_154, ze_167_155, ze_167_157, ze_167_158, ze_167_159, ze_167_162, ze_167_164, ze_167_167, ze_167_168, ze_167_171, ze_167_172, ze_167_175, ze_167_176, ze_167_178, ze_167_179, ze_167_182, ze_167_184, ze_167_185, ze_167_186, ze_167_189, ze_167_192, ze_167_194, z_k_r, z_push_s, z_push_n, okS_0, okS_I, okS_R, okS_A, List.getElem?_cons_zero, List.getElem?_cons_succ, List.length_cons, List.length_nil, List.set_cons_zero, List.set_cons_succ, true_and, and_true, z_tI, z_tB, pk_mul, nI_add, cI_cl, cI_ix, nar_0, nar_1, nar_b, Nat.reduceAdd, Nat.reduceLT, Nat.reduceMul, ↓mg_0, ↓mg_1, ↓mg_2, ↓mg_3, ↓mg_4, ↓mg_5, ↓mg_6, ↓mg_7, ↓mg_8, ↓mg_9, ↓mg_10, ↓mg_11, ↓mg_12, ↓mg_13, ↓mg_14, ↓mg_15, ↓mg_16, ↓mg_17, ↓mg_18, ↓mg_19, ↓mg_20, ↓mg_21, ↓mg_22, ↓mg_23, ↓mg_24, ↓mg_25, ↓mg_26, ↓mg_27, ↓mg_28, mp_0, mp_1, mp_2, mp_3, mp_4, mp_5, mp_6, mp_13, mp_14, mp_15, mp_16, mp_17, mp_18, mp_19, mp_20, mp_21, mp_23, mL_1, mL_2, mL_3, mL_4, mL_5, mL_6, mL_7, mL_8, mL_9, mL_10, mL_11, mL_12, mS_1, mS_2, mS_3, mS_4, mS_5, mS_6, mS_7, mS_8, mS_9, mS_10, mS_11, mS_12, m_gO, uA_s, uA_n, cI_lt, cI_eq, ↓reduceIte, if_true, if_false, Nat.lt_irrefl, eq_self, Nat.reduceEqDiff, or_true, true_or, or_false, false_or, not_false_eq_true, not_true_eq_false, ce_5, zb_t, zb_f, hi, cI_div, h1]
    by_cases a1 : i / 5 < S.R
    · simp (disch := omega) only [a1, if_true, ze_167_0, ze_167_1, ze_167_5, ze_167_7, ze_167_10, ze_167_12, ze_167_13, ze_167_14, ze_167_15, ze_167_18, ze_167_21, ze_167_23, ze_167_24, ze_167_25, ze_167_26, ze_167_29, ze_167_32, ze_167_33, ze_167_36, ze_167_38, ze_167_39, ze_167_40, ze_167_43, ze_167_46, ze_167_49, ze_167_51, ze_167_53, ze_167_56, ze_167_57, ze_167_61, ze_167_63, ze_167_66, ze_167_67, ze_167_70, ze_167_71, ze_167_74, ze_167_76, ze_167_77, ze_167_80, ze_167_82, ze_167_83, ze_167_84, ze_167_87, ze_167_90, ze_167_91, ze_167_92, ze_167_93, ze_167_95, ze_167_96, ze_167_98, ze_167_99, ze_167_100, ze_167_102, ze_167_103, ze_167_104, ze_167_107, ze_167_109, ze_167_110, ze_167_114, ze_167_115, ze_167_118, ze_167_121, ze_167_123, ze_167_124, ze_167_127, ze_167_129, ze_167_131, ze_167_132, ze_167_133, ze_167_134, ze_167_135, ze_167_138, ze_167_139, ze_167_142, ze_167_144, ze_167_146, ze_167_147, ze_167_149, ze_167_150, ze_167_152, ze_167_153, ze_167_154, ze_167_155, ze_167_157, ze_167_158, ze_167_159, ze_167_162, ze_167_164, ze_167_167, ze_167_168, ze_167_171, ze_167_172, ze_167_175, ze_167_176, ze_167_178, ze_167_179, ze_167_182, ze_167_184, ze_167_185, ze_167_186, ze_167_189, ze_167_192, ze_167_194, z_k_r, z_push_s, z_push_n, okS_0, okS_I, okS_R, okS_A, List.getElem?_cons_zero, List.getElem?_cons_succ, List.length_cons, List.length_nil, List.set_cons_zero, List.set_cons_succ, true_and, and_true, z_tI, z_tB, pk_mul, nI_add, cI_cl, cI_ix, nar_0, nar_1, nar_b, Nat.reduceAdd, Nat.reduceLT, Nat.reduceMul, ↓mg_0, ↓mg_1, ↓mg_2, ↓mg_3, ↓mg_4, ↓mg_5, ↓mg_6, ↓mg_7, ↓mg_8, ↓mg_9, ↓mg_10, ↓mg_11, ↓mg_12, ↓mg_13, ↓mg_14, ↓mg_15, ↓mg_16, ↓mg_17, ↓mg_18, ↓mg_19, ↓mg_20, ↓mg_21, ↓mg_22, ↓mg_23, ↓mg_24, ↓mg_25, ↓mg_26, ↓mg_27, ↓mg_28, mp_0, mp_1, mp_2, mp_3, mp_4, mp_5, mp_6, mp_13, mp_14, mp_15, mp_16, mp_17, mp_18, mp_19, mp_20, mp_21, mp_23, mL_1, mL_2, mL_3, mL_4, mL_5, mL_6, mL_7, mL_8, mL_9, mL_10, mL_11, mL_12, mS_1, mS_2, mS_3, mS_4, mS_5, mS_6, mS_7, mS_8, mS_9, mS_10, mS_11, mS_12, m_gO, uA_s, uA_n, cI_lt, cI_eq, ↓reduceIte, if_true, if_false, Nat.lt_irrefl, eq_self, Nat.reduceEqDiff, or_true, true_or, or_false, false_or, not_false_eq_true, not_true_eq_false, ce_5, zb_t, zb_f, cI_div, em, h2]
      by_cases a2 : i % 5 < S.C
      · simp (disch := omega) only [a2, if_true, ze_167_0, ze_167_1, ze_167_5, ze_167_7, ze_167_10, ze_167_12, ze_167_13, ze_167_14, ze_167_15, ze_167_18, ze_167_21, ze_167_23, ze_167_24, ze_167_25, ze_167_26, ze_167_29, ze_167_32, ze_167_33, ze_167_36, ze_167_38, ze_167_39, ze_167_40, ze_167_43, ze_167_46, ze_167_49, ze_167_51, ze_167_53, ze_167_56, ze_167_57, ze_167_61, ze_167_63, ze_167_66, ze_167_67, ze_167_70, ze_167_71, ze_167_74, ze_167_76, ze_167_77, ze_167_80, ze_167_82, ze_167_83, ze_167_84, ze_167_87, ze_167_90, ze_167_91, ze_167_92, ze_167_93, ze_167_95, ze_167_96, ze_167_98, ze_167_99, ze_167_100, ze_167_102, ze_167_103, ze_167_104, ze_167_107, ze_167_109, ze_167_110, ze_167_114, ze_167_115, ze_167_118, ze_167_121, ze_167_123, ze_167_124, ze_167_127, ze_167_129, ze_167_131, ze_167_132, ze_167_133, ze_167_134, ze_167_135, ze_167_138, ze_167_139, ze_167_142, ze_167_144, ze_167_146, ze_167_147, ze_167_149, ze_167_150, ze_167_152, ze_167_153, ze_167_154, ze_167_155, ze_167_157, ze_167_158, ze_167_159, ze_167_162, ze_167_164, ze_167_167, ze_167_168, ze_167_171, ze_167_172, ze_167_175, ze_167_176, ze_167_178, ze_167_179, ze_167_182, ze_167_184, ze_167_185, ze_167_186, ze_167_189, ze_167_192, ze_167_194, z_k_r, z_push_s, z_push_n, okS_0, okS_I, okS_R, okS_A, List.getElem?_cons_zero, List.getElem?_cons_succ, List.length_cons, List.length_nil, List.set_cons_zero, List.set_cons_succ, true_and, and_true, z_tI, z_tB, pk_mul, nI_add, cI_cl, cI_ix, nar_0, nar_1, nar_b, Nat.reduceAdd, Nat.reduceLT, Nat.reduceMul, ↓mg_0, ↓mg_1, ↓mg_2, ↓mg_3, ↓mg_4, ↓mg_5, ↓mg_6, ↓mg_7, ↓mg_8, ↓mg_9, ↓mg_10, ↓mg_11, ↓mg_12, ↓mg_13, ↓mg_14, ↓mg_15, ↓mg_16, ↓mg_17, ↓mg_18, ↓mg_19, ↓mg_20, ↓mg_21, ↓mg_22, ↓mg_23, ↓mg_24, ↓mg_25, ↓mg_26, ↓mg_27, ↓mg_28, mp_0, mp_1, mp_2, mp_3, mp_4, mp_5, mp_6, mp_13, mp_14, mp_15, mp_16, mp_17, mp_18, mp_19, mp_20, mp_21, mp_23, mL_1, mL_2, mL_3, mL_4, mL_5, mL_6, mL_7, mL_8, mL_9, mL_10, mL_11, mL_12, mS_1, mS_2, mS_3, mS_4, mS_5, mS_6, mS_7, mS_8, mS_9, mS_10, mS_11, mS_12, m_gO, uA_s, uA_n, cI_lt, cI_eq, ↓reduceIte, if_true, if_false, Nat.lt_irrefl, eq_self, Nat.reduceEqDiff, or_true, true_or, or_false, false_or, not_false_eq_true, not_true_eq_false, ce_5, zb_t, zb_f, h3 i hi, e5]
        by_cases a3 : S.c i = 5
        · have a3' : S.c (i / 5 * 5 + i % 5) = 5 := by rw [k_split]; exact a3
          have hin : inR S.R S.C i = true ∧ S.c i = 5 := ⟨by unfold inR; rw [decide_eq_true a1, decide_eq_true a2]; rfl, a3⟩
          have m1 : A 5 i = -1 := by rw [h3 i hi, a3]; rfl
          simp (disch := omega) only [a3, if_true, ze_167_0, ze_167_1, ze_167_5, ze_167_7, ze_167_10, ze_167_12, ze_167_13, ze_167_14, ze_167_15, ze_167_18, ze_167_21, ze_167_23, ze_167_24, ze_167_25, ze_167_26, ze_167_29, ze_167_32, ze_167_33, ze_167_36, ze_167_38, ze_167_39, ze_167_40, ze_167_43, ze_167_46, ze_167_49, ze_167_51, ze_167_53, ze_167_56, ze_167_57, ze_167_61, ze_167_63, ze_167_66, ze_167_67, ze_167_70, ze_167_71, ze_167_74, ze_167_76, ze_167_77, ze_167_80, ze_167_82, ze_167_83, ze_167_84, ze_167_87, ze_167_90, ze_167_91, ze_167_92, ze_167_93, ze_167_95, ze_167_96, ze_167_98, ze_167_99, ze_167_100, ze_167_102, ze_167_103, ze_167_104, ze_167_107, ze_167_109, ze_167_110, ze_167_114, ze_167_115, ze_167_118, ze_167_121, ze_167_123, ze_167_124, ze_167_127, ze_167_129, ze_167_131, ze_167_132, ze_167_133, ze_167_134, ze_167_135, ze_167_138, ze_167_139, ze_167_142, ze_167_144, ze_167_146, ze_167_147, ze_167_149, ze_167_150, ze_167_152, ze_167_153, ze_167_154, ze_167_155, ze_167_157, ze_167_158, ze_167_159, ze_167_162, ze_167_164, ze_167_167, ze_167_168, ze_167_171, ze_167_172, ze_167_175, ze_167_176, ze_167_178, ze_167_179, ze_167_182, ze_167_184, ze_167_185, ze_167_186, ze_167_189, ze_167_192, ze_167_194, z_k_r, z_push_s, z_push_n, okS_0, okS_I, okS_R, okS_A, List.getElem?_cons_zero, List.getElem?_cons_succ, List.length_cons, List.length_nil, List.set_cons_zero, List.set_cons_succ, true_and, and_true, z_tI, z_tB, pk_mul, nI_add, cI_cl, cI_ix, nar_0, nar_1, nar_b, Nat.reduceAdd, Nat.reduceLT, Nat.reduceMul, ↓mg_0, ↓mg_1, ↓mg_2, ↓mg_3, ↓mg_4, ↓mg_5, ↓mg_6, ↓mg_7, ↓mg_8, ↓mg_9, ↓mg_10, ↓mg_11, ↓mg_12, ↓mg_13, ↓mg_14, ↓mg_15, ↓mg_16, ↓mg_17, ↓mg_18, ↓mg_19, ↓mg_20, ↓mg_21, ↓mg_22, ↓mg_23, ↓mg_24, ↓mg_25, ↓mg_26, ↓mg_27, ↓mg_28, mp_0, mp_1, mp_2, mp_3, mp_4, mp_5, mp_6, mp_13, mp_14, mp_15, mp_16, mp_17, mp_18, mp_19, mp_20, mp_21, mp_23, mL_1, mL_2, mL_3, mL_4, mL_5, mL_6, mL_7, mL_8, mL_9, mL_10, mL_11, mL_12, mS_1, mS_2, mS_3, mS_4, mS_5, mS_6, mS_7, mS_8, mS_9, mS_10, mS_11, mS_12, m_gO, uA_s, uA_n, cI_lt, cI_eq, ↓reduceIte, if_true, if_false, Nat.lt_irrefl, eq_self, Nat.reduceEqDiff, or_true, true_or, or_false, false_or, not_false_eq_true, not_true_eq_false, ce_5, zb_t, zb_f, hi2, cI_div, em, m_cand hM hg, hd0]
          have loop : ∀ (k s fd : Nat) (A' : Nat → Nat → Int32) (kq : Bool) (P : z_Res → Prop), s + k = S.C → fd ≤ L → MH I A' S → A' 5 i = -1 → kq = (kp && decide (fd = 0)) → z_T g d 167 112 [.ref m, .int (nI fr), .int (nI L), .int (zb kp), .int (nI i), .int (nI fd), .int (sS (S.cd (i / 5) (i % 5))), .int (nI s)] [] (mw f m I A', q) P = P (.inr (some (.int (nI (min L (fd + sm (fun s => if cdk S.C S.b S.c i s = true then cp S.R S.C S.b n (i + 1) (nu S.c i s) else 0) s k))))), (mw f m I (cmA kq (fsO (fun s => if cdk S.C S.b S.c i s = true then fcp S.R S.C S.b n (i + 1) (nu S.c i s) else none) s k) A'), q)) := by
            intro k
            induction k with
            | zero =>
              intro s fd A' kq P b1 b2 b3 b4 b5
              have : s = S.C := by omega
              subst this
              have g2 := b3.2.1
              rw [ze_167_112]
              simp (disch := omega) only [ze_167_0, ze_167_1, ze_167_5, ze_167_7, ze_167_10, ze_167_12, ze_167_13, ze_167_14, ze_167_15, ze_167_18, ze_167_21, ze_167_23, ze_167_24, ze_167_25, ze_167_26, ze_167_29, ze_167_32, ze_167_33, ze_167_36, ze_167_38, ze_167_39, ze_167_40, ze_167_43, ze_167_46, ze_167_49, ze_167_51, ze_167_53, ze_167_56, ze_167_57, ze_167_61, ze_167_63, ze_167_66, ze_167_67, ze_167_70, ze_167_71, ze_167_74, ze_167_76, ze_167_77, ze_167_80, ze_167_82, ze_167_83, ze_167_84, ze_167_87, ze_167_90, ze_167_91, ze_167_92, ze_167_93, ze_167_95, ze_167_96, ze_167_98, ze_167_99, ze_167_100, ze_167_102, ze_167_103, ze_167_104, ze_167_107, ze_167_109, ze_167_110, ze_167_114, ze_167_115, ze_167_118, ze_167_121, ze_167_123, ze_167_124, ze_167_127, ze_167_129, ze_167_131, ze_167_132, ze_167_133, ze_167_134, ze_167_135, ze_167_138, ze_167_139, ze_167_142, ze_167_144, ze_167_146, ze_167_147, ze_167_149, ze_167_150, ze_167_152, ze_167_153, ze_167_154, ze_167_155, ze_167_157, ze_167_158, ze_167_159, ze_167_162, ze_167_164, ze_167_167, ze_167_168, ze_167_171, ze_167_172, ze_167_175, ze_167_176, ze_167_178, ze_167_179, ze_167_182, ze_167_184, ze_167_185, ze_167_186, ze_167_189, ze_167_192, ze_167_194, z_k_r, z_push_s, z_push_n, okS_0, okS_I, okS_R, okS_A, List.getElem?_cons_zero, List.getElem?_cons_succ, List.length_cons, List.length_nil, List.set_cons_zero, List.set_cons_succ, true_and, and_true, z_tI, z_tB, pk_mul, nI_add, cI_cl, cI_ix, nar_0, nar_1, nar_b, Nat.reduceAdd, Nat.reduceLT, Nat.reduceMul, ↓mg_0, ↓mg_1, ↓mg_2, ↓mg_3, ↓mg_4, ↓mg_5, ↓mg_6, ↓mg_7, ↓mg_8, ↓mg_9, ↓mg_10, ↓mg_11, ↓mg_12, ↓mg_13, ↓mg_14, ↓mg_15, ↓mg_16, ↓mg_17, ↓mg_18, ↓mg_19, ↓mg_20, ↓mg_21, ↓mg_22, ↓mg_23, ↓mg_24, ↓mg_25, ↓mg_26, ↓mg_27, ↓mg_28, mp_0, mp_1, mp_2, mp_3, mp_4, mp_5, mp_6, mp_13, mp_14, mp_15, mp_16, mp_17, mp_18, mp_19, mp_20, mp_21, mp_23, mL_1, mL_2, mL_3, mL_4, mL_5, mL_6, mL_7, mL_8, mL_9, mL_10, mL_11, mL_12, mS_1, mS_2, mS_3, mS_4, mS_5, mS_6, mS_7, mS_8, mS_9, mS_10, mS_11, mS_12, m_gO, uA_s, uA_n, cI_lt, cI_eq, ↓reduceIte, if_true, if_false, Nat.lt_irrefl, eq_self, Nat.reduceEqDiff, or_true, true_or, or_false, false_or, not_false_eq_true, not_true_eq_false, ce_5, zb_t, zb_f, g2, sm_z, Nat.add_zero]
              rw [show min L fd = fd by omega]
              unfold fsO
              rw [cmA_n]
            | succ k ih =>
              intro s fd A' kq P b1 b2 b3 b4 b5
              have g2 := b3.2.1
              have hs : s < S.C := by omega
              rw [ze_167_112]
              by_cases c1 : fd < L
              · have cc : cdk S.C S.b S.c i s = S.cd (i / 5) (i % 5) s := by
                  rw [← cdk_cd (by omega), k_split]
                simp (disch := omega) only [ze_167_0, ze_167_1, ze_167_5, ze_167_7, ze_167_10, ze_167_12, ze_167_13, ze_167_14, ze_167_15, ze_167_18, ze_167_21, ze_167_23, ze_167_24, ze_167_25, ze_167_26, ze_167_29, ze_167_32, ze_167_33, ze_167_36, ze_167_38, ze_167_39, ze_167_40, ze_167_43, ze_167_46, ze_167_49, ze_167_51, ze_167_53, ze_167_56, ze_167_57, ze_167_61, ze_167_63, ze_167_66, ze_167_67, ze_167_70, ze_167_71, ze_167_74, ze_167_76, ze_167_77, ze_167_80, ze_167_82, ze_167_83, ze_167_84, ze_167_87, ze_167_90, ze_167_91, ze_167_92, ze_167_93, ze_167_95, ze_167_96, ze_167_98, ze_167_99, ze_167_100, ze_167_102, ze_167_103, ze_167_104, ze_167_107, ze_167_109, ze_167_110, ze_167_114, ze_167_115, ze_167_118, ze_167_121, ze_167_123, ze_167_124, ze_167_127, ze_167_129, ze_167_131, ze_167_132, ze_167_133, ze_167_134, ze_167_135, ze_167_138, ze_167_139, ze_167_142, ze_167_144, ze_167_146, ze_167_147, ze_167_149, ze_167_150, ze_167_152, ze_167_153, ze_167_154, ze_167_155, ze_167_157, ze_167_158, ze_167_159, ze_167_162, ze_167_164, ze_167_167, ze_167_168, ze_167_171, ze_167_175, ze_167_176, ze_167_178, ze_167_179, ze_167_182, ze_167_184, ze_167_185, ze_167_186, ze_167_189, ze_167_192, ze_167_194, z_k_r, z_push_s, z_push_n, okS_0, okS_I, okS_R, okS_A, List.getElem?_cons_zero, List.getElem?_cons_succ, List.length_cons, List.length_nil, List.set_cons_zero, List.set_cons_succ, true_and, and_true, z_tI, z_tB, pk_mul, nI_add, cI_cl, cI_ix, nar_0, nar_1, nar_b, Nat.reduceAdd, Nat.reduceLT, Nat.reduceMul, ↓mg_0, ↓mg_1, ↓mg_2, ↓mg_3, ↓mg_4, ↓mg_5, ↓mg_6, ↓mg_7, ↓mg_8, ↓mg_9, ↓mg_10, ↓mg_11, ↓mg_12, ↓mg_13, ↓mg_14, ↓mg_15, ↓mg_16, ↓mg_17, ↓mg_18, ↓mg_19, ↓mg_20, ↓mg_21, ↓mg_22, ↓mg_23, ↓mg_24, ↓mg_25, ↓mg_26, ↓mg_27, ↓mg_28, mp_0, mp_1, mp_2, mp_3, mp_4, mp_5, mp_6, mp_13, mp_14, mp_15, mp_16, mp_17, mp_18, mp_19, mp_20, mp_21, mp_23, mL_1, mL_2, mL_3, mL_4, mL_5, mL_6, mL_7, mL_8, mL_9, mL_10, mL_11, mL_12, mS_1, mS_2, mS_3, mS_4, mS_5, mS_6, mS_7, mS_8, mS_9, mS_10, mS_11, mS_12, m_gO, uA_s, uA_n, cI_lt, cI_eq, ↓reduceIte, if_true, if_false, Nat.lt_irrefl, eq_self, Nat.reduceEqDiff, or_true, true_or, or_false, false_or, not_false_eq_true, not_true_eq_false, ce_5, zb_t, zb_f, g2, hs, c1, sS_bit, zb_1]
                cases c2 : S.cd (i / 5) (i % 5) s
                · rw [c2] at cc
                  simp (disch := omega) only [Bool.false_eq_true, if_false]
                  rw [ih (s + 1) fd A' kq P (by omega) b2 b3 b4 b5, sm_s, cc, if_neg Bool.false_ne_true, Nat.zero_add, fsO_n (by rw [cc, if_neg Bool.false_ne_true])]
                · rw [c2] at cc
                  have gp := GI_put hg a1 a2 c2
                  have mp := MH_put b3 (r := i / 5) (j := i % 5) (s := s) (by omega)
                  rw [k_split] at mp
                  have cu : (S.put (i / 5) (i % 5) s).c = nu S.c i s := by
                    show nu S.c (i / 5 * 5 + i % 5) s = _
                    rw [k_split]
                  have rc9 := fun P => m_comp n (i + 1) (d - 1) (S.put (i / 5) (i % 5) s) (uA A' 5 (upd (A' 5) i (nI s))) (L - fd) (i + 1) kq mp gp (by omega) (by omega) (by omega) (by omega) z_un z_un z_un q P
                  rw [cu] at rc9
                  have call : ∀ P, z_Ca g (d - 1) 167 [.ref m, .int (nI (i + 1)), .int (nI (L - fd)), .int (zb kq)] (mw f m I (uA A' 5 (upd (A' 5) i (nI s))), q) P = P (.inr (some (.int (nI (min (L - fd) (cp S.R S.C S.b n (i + 1) (nu S.c i s)))))), (mw f m I (cmA kq (fcp S.R S.C S.b n (i + 1) (nu S.c i s)) (uA A' 5 (upd (A' 5) i (nI s)))), q)) := fun P => by
                    refine Eq.trans ?_ (rc9 P)
                    rw [zn_167]
                    simp (disch := omega) only [ze_167_0, ze_167_1, ze_167_5, ze_167_7, ze_167_10, ze_167_12, ze_167_13, ze_167_14, ze_167_15, ze_167_18, ze_167_21, ze_167_23, ze_167_24, ze_167_25, ze_167_26, ze_167_29, ze_167_32, ze_167_33, ze_167_36, ze_167_38, ze_167_39, ze_167_40, ze_167_43, ze_167_46, ze_167_49, ze_167_51, ze_167_53, ze_167_56, ze_167_57, ze_167_59, ze_167_61, ze_167_63, ze_167_66, ze_167_67, ze_167_70, ze_167_71, ze_167_74, ze_167_76, ze_167_77, ze_167_80, ze_167_82, ze_167_83, ze_167_84, ze_167_87, ze_167_90, ze_167_91, ze_167_92, ze_167_93, ze_167_95, ze_167_96, ze_167_98, ze_167_99, ze_167_100, ze_167_102, ze_167_103, ze_167_104, ze_167_107, ze_167_109, ze_167_110, ze_167_112, ze_167_114, ze_167_115, ze_167_118, ze_167_121, ze_167_123, ze_167_124, ze_167_127, ze_167_129, ze_167_131, ze_167_132, ze_167_133, ze_167_134, ze_167_135, ze_167_138, ze_167_139, ze_167_142, ze_167_144, ze_167_146, ze_167_147, ze_167_149, ze_167_150, ze_167_152, ze_167_153, ze_167_154, ze_167_155, ze_167_157, ze_167_158, ze_167_159, ze_167_162, ze_167_164, ze_167_167, ze_167_168, ze_167_171, ze_167_172, ze_167_175, ze_167_176, ze_167_178, ze_167_179, ze_167_182, ze_167_184, ze_167_185, ze_167_186, ze_167_189, ze_167_192, ze_167_194, z_k_r, z_push_s, z_push_n, okS_0, okS_I, okS_R, okS_A, List.getElem?_cons_zero, List.getElem?_cons_succ, List.length_cons, List.length_nil, List.set_cons_zero, List.set_cons_succ, true_and, and_true, z_tI, z_tB, pk_mul, nI_add, cI_cl, cI_ix, nar_0, nar_1, nar_b, Nat.reduceAdd, Nat.reduceLT, Nat.reduceMul]
                  have kz : kq = false ∨ (kq = true ∧ kp = true ∧ fd = 0) := by
                    rw [b5]
                    cases kp
                    · exact Or.inl rfl
                    · by_cases e : fd = 0
                      · exact Or.inr ⟨by simp [e], rfl, e⟩
                      · exact Or.inl (by simp [e])
                  have step : z_T g d 167 172 [.ref m, .int (nI fr), .int (nI L), .int (zb kp), .int (nI i), .int (nI fd), .int (sS (S.cd (i / 5) (i % 5))), .int (nI s)] [.int (zb kq), .int (nI (L - fd)), .int (nI (i + 1)), .ref m, .int (nI fd)] (mw f m I (uA A' 5 (upd (A' 5) i (nI s))), q) P = P (.inr (some (.int (nI (min L (fd + sm (fun s => if cdk S.C S.b S.c i s = true then cp S.R S.C S.b n (i + 1) (nu S.c i s) else 0) s (k + 1)))))), (mw f m I (cmA kq (fsO (fun s => if cdk S.C S.b S.c i s = true then fcp S.R S.C S.b n (i + 1) (nu S.c i s) else none) s (k + 1)) A'), q)) := by
                    simp (disch := omega) only [ze_167_0, ze_167_1, ze_167_5, ze_167_7, ze_167_10, ze_167_12, ze_167_13, ze_167_14, ze_167_15, ze_167_18, ze_167_21, ze_167_23, ze_167_24, ze_167_25, ze_167_26, ze_167_29, ze_167_32, ze_167_33, ze_167_36, ze_167_38, ze_167_39, ze_167_40, ze_167_43, ze_167_46, ze_167_49, ze_167_51, ze_167_53, ze_167_56, ze_167_57, ze_167_61, ze_167_63, ze_167_66, ze_167_67, ze_167_70, ze_167_71, ze_167_74, ze_167_76, ze_167_77, ze_167_80, ze_167_82, ze_167_83, ze_167_84, ze_167_87, ze_167_90, ze_167_91, ze_167_92, ze_167_93, ze_167_95, ze_167_96, ze_167_98, ze_167_99, ze_167_100, ze_167_102, ze_167_103, ze_167_104, ze_167_107, ze_167_109, ze_167_110, ze_167_114, ze_167_115, ze_167_118, ze_167_121, ze_167_123, ze_167_124, ze_167_127, ze_167_129, ze_167_131, ze_167_132, ze_167_133, ze_167_134, ze_167_135, ze_167_138, ze_167_139, ze_167_142, ze_167_144, ze_167_146, ze_167_147, ze_167_149, ze_167_150, ze_167_152, ze_167_153, ze_167_154, ze_167_155, ze_167_157, ze_167_158, ze_167_159, ze_167_162, ze_167_164, ze_167_167, ze_167_168, ze_167_171, ze_167_172, ze_167_175, ze_167_176, ze_167_178, ze_167_179, ze_167_182, ze_167_184, ze_167_185, ze_167_186, ze_167_189, ze_167_192, ze_167_194, z_k_r, z_push_s, z_push_n, okS_0, okS_I, okS_R, okS_A, List.getElem?_cons_zero, List.getElem?_cons_succ, List.length_cons, List.length_nil, List.set_cons_zero, List.set_cons_succ, true_and, and_true, z_tI, z_tB, pk_mul, nI_add, cI_cl, cI_ix, nar_0, nar_1, nar_b, Nat.reduceAdd, Nat.reduceLT, Nat.reduceMul, ↓mg_0, ↓mg_1, ↓mg_2, ↓mg_3, ↓mg_4, ↓mg_5, ↓mg_6, ↓mg_7, ↓mg_8, ↓mg_9, ↓mg_10, ↓mg_11, ↓mg_12, ↓mg_13, ↓mg_14, ↓mg_15, ↓mg_16, ↓mg_17, ↓mg_18, ↓mg_19, ↓mg_20, ↓mg_21, ↓mg_22, ↓mg_23, ↓mg_24, ↓mg_25, ↓mg_26, ↓mg_27, ↓mg_28, mp_0, mp_1, mp_2, mp_3, mp_4, mp_5, mp_6, mp_13, mp_14, mp_15, mp_16, mp_17, mp_18, mp_19, mp_20, mp_21, mp_23, mL_1, mL_2, mL_3, mL_4, mL_5, mL_6, mL_7, mL_8, mL_9, mL_10, mL_11, mL_12, mS_1, mS_2, mS_3, mS_4, mS_5, mS_6, mS_7, mS_8, mS_9, mS_10, mS_11, mS_12, m_gO, uA_s, uA_n, cI_lt, cI_eq, ↓reduceIte, if_true, if_false, Nat.lt_irrefl, eq_self, Nat.reduceEqDiff, or_true, true_or, or_false, false_or, not_false_eq_true, not_true_eq_false, ce_5, zb_t, zb_f, hd0, call]
                    rw [cmA_back b4]
                    rw [sm_s, cc, if_pos rfl]
                    have kz2 := kz
                    rcases kz with k1 | ⟨k1, k2, k3⟩
                    · subst k1
                      rw [cmA_f, ih (s + 1) (fd + min (L - fd) (cp S.R S.C S.b n (i + 1) (nu S.c i s))) A' false P (by omega) (by omega) b3 b4 (by
                        have b6 := b5
                        cases kp
                        · rfl
                        · have : ¬ fd = 0 := fun z => by rw [z] at b6; cases b6
                          simp; omega), cmA_f, cmA_f]
                      rw [show min L (fd + min (L - fd) (cp S.R S.C S.b n (i + 1) (nu S.c i s)) + sm (fun s => if cdk S.C S.b S.c i s = true then cp S.R S.C S.b n (i + 1) (nu S.c i s) else 0) (s + 1) k) = min L (fd + (cp S.R S.C S.b n (i + 1) (nu S.c i s) + sm (fun s => if cdk S.C S.b S.c i s = true then cp S.R S.C S.b n (i + 1) (nu S.c i s) else 0) (s + 1) k)) by omega]
                    · subst k1; subst k2; subst k3
                      cases o : fcp S.R S.C S.b n (i + 1) (nu S.c i s) with
                      | none =>
                        have z0 := (fcp_cp _ _ _).mp o
                        rw [cmA_n, z0, ih (s + 1) (0 + min (L - 0) 0) A' true P (by omega) (by omega) b3 b4 (by simp), fsO_n (by rw [cc, if_pos rfl, o])]
                        rw [show 0 + min (L - 0) 0 = 0 by omega, Nat.zero_add, Nat.zero_add]
                      | some F =>
                        have z0 : cp S.R S.C S.b n (i + 1) (nu S.c i s) ≠ 0 := fun z => by
                          rw [(fcp_cp _ _ _).mpr z] at o
                          cases o
                        rw [ih (s + 1) (0 + min (L - 0) (cp S.R S.C S.b n (i + 1) (nu S.c i s))) (cmA true (some F) A') false P (by omega) (by omega) (MH_cmA _ _ b3) b4 (by simp; omega), cmA_f, fsO_s (by rw [cc, if_pos rfl, o])]
                        rw [show min L (0 + min (L - 0) (cp S.R S.C S.b n (i + 1) (nu S.c i s)) + sm (fun s => if cdk S.C S.b S.c i s = true then cp S.R S.C S.b n (i + 1) (nu S.c i s) else 0) (s + 1) k) = min L (0 + (cp S.R S.C S.b n (i + 1) (nu S.c i s) + sm (fun s => if cdk S.C S.b S.c i s = true then cp S.R S.C S.b n (i + 1) (nu S.c i s) else 0) (s + 1) k)) by omega]
                  rw [← step]
                  simp (disch := omega) only [if_true, ze_167_0, ze_167_1, ze_167_5, ze_167_7, ze_167_10, ze_167_12, ze_167_13, ze_167_14, ze_167_15, ze_167_18, ze_167_21, ze_167_23, ze_167_24, ze_167_25, ze_167_26, ze_167_29, ze_167_32, ze_167_33, ze_167_36, ze_167_38, ze_167_39, ze_167_40, ze_167_43, ze_167_46, ze_167_49, ze_167_51, ze_167_53, ze_167_56, ze_167_57, ze_167_61, ze_167_63, ze_167_66, ze_167_67, ze_167_70, ze_167_71, ze_167_74, ze_167_76, ze_167_77, ze_167_80, ze_167_82, ze_167_83, ze_167_84, ze_167_87, ze_167_90, ze_167_91, ze_167_92, ze_167_93, ze_167_95, ze_167_96, ze_167_98, ze_167_99, ze_167_100, ze_167_102, ze_167_103, ze_167_104, ze_167_107, ze_167_109, ze_167_110, ze_167_114, ze_167_115, ze_167_118, ze_167_121, ze_167_123, ze_167_124, ze_167_127, ze_167_129, ze_167_131, ze_167_132, ze_167_133, ze_167_134, ze_167_135, ze_167_138, ze_167_139, ze_167_142, ze_167_144, ze_167_146, ze_167_147, ze_167_149, ze_167_150, ze_167_152, ze_167_153, ze_167_154, ze_167_155, ze_167_157, ze_167_158, ze_167_159, ze_167_162, ze_167_164, ze_167_167, ze_167_168, ze_167_171, ze_167_175, ze_167_176, ze_167_178, ze_167_179, ze_167_182, ze_167_184, ze_167_185, ze_167_186, ze_167_189, ze_167_192, ze_167_194, z_k_r, z_push_s, z_push_n, okS_0, okS_I, okS_R, okS_A, List.getElem?_cons_zero, List.getElem?_cons_succ, List.length_cons, List.length_nil, List.set_cons_zero, List.set_cons_succ, true_and, and_true, z_tI, z_tB, pk_mul, nI_add, cI_cl, cI_ix, nar_0, nar_1, nar_b, Nat.reduceAdd, Nat.reduceLT, Nat.reduceMul, ↓mg_0, ↓mg_1, ↓mg_2, ↓mg_3, ↓mg_4, ↓mg_5, ↓mg_6, ↓mg_7, ↓mg_8, ↓mg_9, ↓mg_10, ↓mg_11, ↓mg_12, ↓mg_13, ↓mg_14, ↓mg_15, ↓mg_16, ↓mg_17, ↓mg_18, ↓mg_19, ↓mg_20, ↓mg_21, ↓mg_22, ↓mg_23, ↓mg_24, ↓mg_25, ↓mg_26, ↓mg_27, ↓mg_28, mp_0, mp_1, mp_2, mp_3, mp_4, mp_5, mp_6, mp_13, mp_14, mp_15, mp_16, mp_17, mp_18, mp_19, mp_20, mp_21, mp_23, mL_1, mL_2, mL_3, mL_4, mL_5, mL_6, mL_7, mL_8, mL_9, mL_10, mL_11, mL_12, mS_1, mS_2, mS_3, mS_4, mS_5, mS_6, mS_7, mS_8, mS_9, mS_10, mS_11, mS_12, m_gO, uA_s, uA_n, cI_lt, cI_eq, ↓reduceIte, if_true, if_false, Nat.lt_irrefl, eq_self, Nat.reduceEqDiff, or_true, true_or, or_false, false_or, not_false_eq_true, not_true_eq_false, ce_5, zb_t, zb_f, cI_sub, zb_0]
                  rw [b5]
                  cases kp
                  · simp only [if_true, Bool.false_and, zb_f]
                  · by_cases e : fd = 0
                    · simp only [e, if_true, if_false, Bool.true_eq_false, Bool.true_and, decide_true, zb_t]
                    · simp only [e, if_true, if_false, Bool.true_eq_false, Bool.true_and, decide_false, zb_f]
              · simp (disch := omega) only [ze_167_0, ze_167_1, ze_167_5, ze_167_7, ze_167_10, ze_167_12, ze_167_13, ze_167_14, ze_167_15, ze_167_18, ze_167_21, ze_167_23, ze_167_24, ze_167_25, ze_167_26, ze_167_29, ze_167_32, ze_167_33, ze_167_36, ze_167_38, ze_167_39, ze_167_40, ze_167_43, ze_167_46, ze_167_49, ze_167_51, ze_167_53, ze_167_56, ze_167_57, ze_167_61, ze_167_63, ze_167_66, ze_167_67, ze_167_70, ze_167_71, ze_167_74, ze_167_76, ze_167_77, ze_167_80, ze_167_82, ze_167_83, ze_167_84, ze_167_87, ze_167_90, ze_167_91, ze_167_92, ze_167_93, ze_167_95, ze_167_96, ze_167_98, ze_167_99, ze_167_100, ze_167_102, ze_167_103, ze_167_104, ze_167_107, ze_167_109, ze_167_110, ze_167_114, ze_167_115, ze_167_118, ze_167_121, ze_167_123, ze_167_124, ze_167_127, ze_167_129, ze_167_131, ze_167_132, ze_167_133, ze_167_134, ze_167_135, ze_167_138, ze_167_139, ze_167_142, ze_167_144, ze_167_146, ze_167_147, ze_167_149, ze_167_150, ze_167_152, ze_167_153, ze_167_154, ze_167_155, ze_167_157, ze_167_158, ze_167_159, ze_167_162, ze_167_164, ze_167_167, ze_167_168, ze_167_171, ze_167_172, ze_167_175, ze_167_176, ze_167_178, ze_167_179, ze_167_182, ze_167_184, ze_167_185, ze_167_186, ze_167_189, ze_167_192, ze_167_194, z_k_r, z_push_s, z_push_n, okS_0, okS_I, okS_R, okS_A, List.getElem?_cons_zero, List.getElem?_cons_succ, List.length_cons, List.length_nil, List.set_cons_zero, List.set_cons_succ, true_and, and_true, z_tI, z_tB, pk_mul, nI_add, cI_cl, cI_ix, nar_0, nar_1, nar_b, Nat.reduceAdd, Nat.reduceLT, Nat.reduceMul, ↓mg_0, ↓mg_1, ↓mg_2, ↓mg_3, ↓mg_4, ↓mg_5, ↓mg_6, ↓mg_7, ↓mg_8, ↓mg_9, ↓mg_10, ↓mg_11, ↓mg_12, ↓mg_13, ↓mg_14, ↓mg_15, ↓mg_16, ↓mg_17, ↓mg_18, ↓mg_19, ↓mg_20, ↓mg_21, ↓mg_22, ↓mg_23, ↓mg_24, ↓mg_25, ↓mg_26, ↓mg_27, ↓mg_28, mp_0, mp_1, mp_2, mp_3, mp_4, mp_5, mp_6, mp_13, mp_14, mp_15, mp_16, mp_17, mp_18, mp_19, mp_20, mp_21, mp_23, mL_1, mL_2, mL_3, mL_4, mL_5, mL_6, mL_7, mL_8, mL_9, mL_10, mL_11, mL_12, mS_1, mS_2, mS_3, mS_4, mS_5, mS_6, mS_7, mS_8, mS_9, mS_10, mS_11, mS_12, m_gO, uA_s, uA_n, cI_lt, cI_eq, ↓reduceIte, if_true, if_false, Nat.lt_irrefl, eq_self, Nat.reduceEqDiff, or_true, true_or, or_false, false_or, not_false_eq_true, not_true_eq_false, ce_5, zb_t, zb_f, g2, hs, c1]
                have : kq = false := by
                  rw [b5]
                  cases kp
                  · rfl
                  · simp
                    omega
                rw [this, cmA_f, show min L (fd + sm (fun s => if cdk S.C S.b S.c i s = true then cp S.R S.C S.b n (i + 1) (nu S.c i s) else 0) s (k + 1)) = fd by omega]
          rw [loop S.C 0 0 A kp P (by omega) (by omega) hM m1 (by simp), Nat.zero_add]
          conv => rhs; unfold cp fcp
          rw [if_pos hin, if_pos hin]
        · simp only [a3, if_false]
          exact skip (fun z => a3 z.2)
      · simp only [a2, if_false]
        exact skip (fun z => by
          have := z.1
          unfold inR at this
          rw [decide_eq_false a2, Bool.and_false] at this
          cases this)
    · simp only [a1, if_false]
      exact skip (fun z => by
        have := z.1
        unfold inR at this
        rw [decide_eq_false a1, Bool.false_and] at this
        cases this)
theorem m_compl {S : GS} {A : Nat → Nat → Int32} {L : Nat} {kp : Bool} (hM : MH I A S) (hg : GI S) (hd : 30 < d) (hL : 0 < L) (hL2 : L ≤ 1000) {q : Option Nat × Nat × Nat} {P : z_Res → Prop} : z_Ca g d 167 [.ref m, .int (nI 0), .int (nI L), .int (zb kp)] (mw f m I A, q) P = P (.inr (some (.int (nI (min L S.cn)))), (mw f m I (cmA kp (fcp S.R S.C S.b 25 0 S.c) A), q)) := by
  refine Eq.trans ?_ (m_comp (g := g) 25 0 d S A L 0 kp hM hg (by omega) (by omega) hL hL2 z_un z_un z_un q P)
  rw [zn_167]
  simp (disch := omega) only [ze_167_0, ze_167_1, ze_167_5, ze_167_7, ze_167_10, ze_167_12, ze_167_13, ze_167_14, ze_167_15, ze_167_18, ze_167_21, ze_167_23, ze_167_24, ze_167_25, ze_167_26, ze_167_29, ze_167_32, ze_167_33, ze_167_36, ze_167_38, ze_167_39, ze_167_40, ze_167_43, ze_167_46, ze_167_49, ze_167_51, ze_167_53, ze_167_56, ze_167_57, ze_167_59, ze_167_61, ze_167_63, ze_167_66, ze_167_67, ze_167_70, ze_167_71, ze_167_74, ze_167_76, ze_167_77, ze_167_80, ze_167_82, ze_167_83, ze_167_84, ze_167_87, ze_167_90, ze_167_91, ze_167_92, ze_167_93, ze_167_95, ze_167_96, ze_167_98, ze_167_99, ze_167_100, ze_167_102, ze_167_103, ze_167_104, ze_167_107, ze_167_109, ze_167_110, ze_167_112, ze_167_114, ze_167_115, ze_167_118, ze_167_121, ze_167_123, ze_167_124, ze_167_127, ze_167_129, ze_167_131, ze_167_132, ze_167_133, ze_167_134, ze_167_135, ze_167_138, ze_167_139, ze_167_142, ze_167_144, ze_167_146, ze_167_147, ze_167_149, ze_167_150, ze_167_152, ze_167_153, ze_167_154, ze_167_155, ze_167_157, ze_167_158, ze_167_159, ze_167_162, ze_167_164, ze_167_167, ze_167_168, ze_167_171, ze_167_172, ze_167_175, ze_167_176, ze_167_178, ze_167_179, ze_167_182, ze_167_184, ze_167_185, ze_167_186, ze_167_189, ze_167_192, ze_167_194, z_k_r, z_push_s, z_push_n, okS_0, okS_I, okS_R, okS_A, List.getElem?_cons_zero, List.getElem?_cons_succ, List.length_cons, List.length_nil, List.set_cons_zero, List.set_cons_succ, true_and, and_true, z_tI, z_tB, pk_mul, nI_add, cI_cl, cI_ix, nar_0, nar_1, nar_b, Nat.reduceAdd, Nat.reduceLT, Nat.reduceMul]
end
