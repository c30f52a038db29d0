/-! more equations: constants, locals, fields, arrays, calls, ends -/
theorem z_clnd : ∀ i, i < 11 → ∀ j, j < 11 → (vwCl[i]?).map (fun q => q.1) = (vwCl[j]?).map (fun q => q.1) → i = j := by decide +kernel
theorem z_cl11 {i : Nat} {q : vw_C} (h : vwCl[i]? = some q) : i < 11 := (List.getElem?_eq_some_iff.mp h).1
def z_nO (h : z_H) (ci N : Nat) (fs : List Value) (K : Nat → z_H → Prop) : Prop := match h.2.1 with
  | some q => K q (z_up h.1 q (.inr (ci, fs)), some (q + 1), h.2.2.1 + 1, h.2.2.2 + N)
  | none => False
def z_nA (h : z_H) (t : ArrayType) (n : Int32) (K : Nat → z_H → Prop) : Prop := match z_na h t n with
  | some q => K q.1 q.2
  | none => False
def z_nM (h : z_H) (n k : Int32) (K : Nat → z_H → Prop) : Prop := match z_ma h n k with
  | some q => K q.1 q.2
  | none => False
section ZW2
variable {g : z_G} {n d m pc pc' m' idx : Nat} {ls ls' st st' as r9 : List Value} {h h' : z_H} {P : z_Res → Prop} {i : Instr} {v : Option Value} {E : String}
variable {k : Nat} {x y : Int32} {a b : Nat} {w : Value}
theorem zt_iconst {z : Int} (hi : z_ins m pc = some (.iconst z, 1)) (hv : Int32.ofInt z = x) : z_T g d m pc ls st h P = z_T g d m (pc + 1) ls (.int x :: st) h P := by subst hv; exact zt_goN hi (Or.inr rfl) rfl
theorem zt_bipush {z : Int} (hi : z_ins m pc = some (.bipush z, 2)) (hv : (Int8.ofInt z).toInt32 = x) : z_T g d m pc ls st h P = z_T g d m (pc + 2) ls (.int x :: st) h P := by subst hv; exact zt_goN hi (Or.inr rfl) rfl
theorem zt_sipush {z : Int} (hi : z_ins m pc = some (.sipush z, 3)) (hv : (Int16.ofInt z).toInt32 = x) : z_T g d m pc ls st h P = z_T g d m (pc + 3) ls (.int x :: st) h P := by subst hv; exact zt_goN hi (Or.inr rfl) rfl
theorem zt_lconst {z : Fin 2} {q : Int64} (hi : z_ins m pc = some (.lconst z, 1)) (hv : Int64.ofNat z = q) : z_T g d m pc ls st h P = z_T g d m (pc + 1) ls (.long q :: st) h P := by subst hv; exact zt_goN hi (Or.inr rfl) rfl
theorem zt_ldcw {wi : Nat} (hi : z_ins m pc = some (.ldc_w idx, 3)) (hk : z_lookup z_kss (z_own m, idx) = some (x, wi)) : z_T g d m pc ls st h P = z_T g d m (pc + 3) ls (.int x :: st) h P := zt_goN hi (Or.inr rfl) (by simp only [z_op, hk])
theorem zt_ldc (hi : z_ins m pc = some (.ldc idx, 2)) (hk : z_lookup z_srs (z_own m, idx) = some k) : z_T g d m pc ls st h P = z_T g d m (pc + 2) ls (.retAddr k :: st) h P := zt_goN hi (Or.inr rfl) (by simp only [z_op, hk])
theorem z_ldI (hl : ls[k]? = some (.int x)) : z_ld ls k true = some (.int x) := by unfold z_ld; rw [hl]; rfl
theorem z_ldR (hl : ls[k]? = some (.ref a)) : z_ld ls k false = some (.ref a) := by unfold z_ld; rw [hl]; rfl
theorem z_ldS (hl : ls[k]? = some (.retAddr a)) : z_ld ls k false = some (.retAddr a) := by unfold z_ld; rw [hl]; rfl
theorem zt_iloadn {j : Fin 4} (hi : z_ins m pc = some (.iload_n j, 1)) (hj : (j : Nat) = k) (hl : ls[k]? = some (.int x)) : z_T g d m pc ls st h P = z_T g d m (pc + 1) ls (.int x :: st) h P := by subst hj; exact zt_goN hi (Or.inr rfl) (by simp only [z_op, z_ldI hl, Option.bind_some])
theorem zt_iload (hi : z_ins m pc = some (.iload k, 2)) (hl : ls[k]? = some (.int x)) : z_T g d m pc ls st h P = z_T g d m (pc + 2) ls (.int x :: st) h P := zt_goN hi (Or.inr rfl) (by simp only [z_op, z_ldI hl, Option.bind_some])
theorem zt_aloadn {j : Fin 4} (hi : z_ins m pc = some (.aload_n j, 1)) (hj : (j : Nat) = k) (hl : ls[k]? = some (.ref a)) : z_T g d m pc ls st h P = z_T g d m (pc + 1) ls (.ref a :: st) h P := by subst hj; exact zt_goN hi (Or.inr rfl) (by simp only [z_op, z_ldR hl, Option.bind_some])
theorem zt_aload (hi : z_ins m pc = some (.aload k, 2)) (hl : ls[k]? = some (.ref a)) : z_T g d m pc ls st h P = z_T g d m (pc + 2) ls (.ref a :: st) h P := zt_goN hi (Or.inr rfl) (by simp only [z_op, z_ldR hl, Option.bind_some])
theorem zt_aloadnS {j : Fin 4} (hi : z_ins m pc = some (.aload_n j, 1)) (hj : (j : Nat) = k) (hl : ls[k]? = some (.retAddr a)) : z_T g d m pc ls st h P = z_T g d m (pc + 1) ls (.retAddr a :: st) h P := by subst hj; exact zt_goN hi (Or.inr rfl) (by simp only [z_op, z_ldS hl, Option.bind_some])
theorem zt_istoren {j : Fin 4} (hi : z_ins m pc = some (.istore_n j, 1)) (hj : (j : Nat) = k) (hl : k < ls.length) : z_T g d m pc ls (.int x :: st) h P = z_T g d m (pc + 1) (ls.set k (.int x)) st h P := by subst hj; exact zt_goN hi (Or.inr rfl) (by simp only [z_op, if_pos hl])
theorem zt_istore (hi : z_ins m pc = some (.istore k, 2)) (hl : k < ls.length) : z_T g d m pc ls (.int x :: st) h P = z_T g d m (pc + 2) (ls.set k (.int x)) st h P := zt_goN hi (Or.inr rfl) (by simp only [z_op, if_pos hl])
theorem zt_astoren {j : Fin 4} (hi : z_ins m pc = some (.astore_n j, 1)) (hj : (j : Nat) = k) (hl : k < ls.length) : z_T g d m pc ls (.ref a :: st) h P = z_T g d m (pc + 1) (ls.set k (.ref a)) st h P := by subst hj; exact zt_goN hi (Or.inr rfl) (by simp only [z_op, if_pos hl])
theorem zt_astore (hi : z_ins m pc = some (.astore k, 2)) (hl : k < ls.length) : z_T g d m pc ls (.ref a :: st) h P = z_T g d m (pc + 2) (ls.set k (.ref a)) st h P := zt_goN hi (Or.inr rfl) (by simp only [z_op, if_pos hl])
theorem zt_iinc {z : Int} (hi : z_ins m pc = some (.iinc k z, 3)) (hv : Int32.ofInt z = y) (hl : ls[k]? = some (.int x)) : z_T g d m pc ls st h P = z_T g d m (pc + 3) (ls.set k (.int (x + y))) st h P := by subst hv; exact zt_goN hi (Or.inr rfl) (by simp only [z_op, hl])
theorem zt_bin {f : Int32 → Int32 → Int32} (hi : z_ins m pc = some (i, 1)) (hn : z_len i = 1) (ho : ∀ ls st h, z_op g m pc i ls (.int y :: .int x :: st) h = z_go (pc + 1) ls (.int (f x y) :: st) h) : z_T g d m pc ls (.int y :: .int x :: st) h P = z_T g d m (pc + 1) ls (.int (f x y) :: st) h P := zt_goN hi (Or.inr hn.symm) (ho _ _ _)
theorem zt_idiv (hi : z_ins m pc = some (.idiv, 1)) : z_T g d m pc ls (.int y :: .int x :: st) h P = (¬ y = nI 0 ∧ z_T g d m (pc + 1) ls (.int (x / y) :: st) h P) := by
  by_cases q : y = nI 0
  · have q' : y = 0 := q
    simp only [q, not_true, false_and]; exact zt_noN hi (Or.inr rfl) (by simp only [z_op]; rw [if_pos (show nI 0 = 0 from rfl)])
  · simp only [q, not_false_iff, true_and]; exact zt_goN hi (Or.inr rfl) (by simp only [z_op]; rw [if_neg (show ¬ y = 0 from q)])
theorem zt_irem (hi : z_ins m pc = some (.irem, 1)) : z_T g d m pc ls (.int y :: .int x :: st) h P = (¬ y = nI 0 ∧ z_T g d m (pc + 1) ls (.int (x - x / y * y) :: st) h P) := by
  by_cases q : y = nI 0
  · simp only [q, not_true, false_and]; exact zt_noN hi (Or.inr rfl) (by simp only [z_op]; rw [if_pos (show nI 0 = 0 from rfl)])
  · simp only [q, not_false_iff, true_and]; exact zt_goN hi (Or.inr rfl) (by simp only [z_op]; rw [if_neg (show ¬ y = 0 from q)])
theorem zt_i2l (hi : z_ins m pc = some (.i2l, 1)) : z_T g d m pc ls (.int x :: st) h P = z_T g d m (pc + 1) ls (.long x.toInt64 :: st) h P := zt_goN hi (Or.inr rfl) rfl
theorem zt_i2b (hi : z_ins m pc = some (.i2b, 1)) : z_T g d m pc ls (.int x :: st) h P = z_T g d m (pc + 1) ls (.int x.toInt8.toInt32 :: st) h P := zt_goN hi (Or.inr rfl) rfl
theorem zt_lcmp {u v : Int64} (hi : z_ins m pc = some (.lcmp, 1)) : z_T g d m pc ls (.long v :: .long u :: st) h P = z_T g d m (pc + 1) ls (.int (lg_cmp u v) :: st) h P := zt_goN hi (Or.inr rfl) rfl
theorem zt_dupR (hi : z_ins m pc = some (.dup, 1)) : z_T g d m pc ls (.ref a :: st) h P = z_T g d m (pc + 1) ls (.ref a :: .ref a :: st) h P := zt_goN hi (Or.inr rfl) rfl
theorem zt_dupI (hi : z_ins m pc = some (.dup, 1)) : z_T g d m pc ls (.int x :: st) h P = z_T g d m (pc + 1) ls (.int x :: .int x :: st) h P := zt_goN hi (Or.inr rfl) rfl
theorem zt_dup2 (hi : z_ins m pc = some (.dup2, 1)) : z_T g d m pc ls (.int x :: .ref a :: st) h P = z_T g d m (pc + 1) ls (.int x :: .ref a :: .int x :: .ref a :: st) h P := zt_goN hi (Or.inr rfl) rfl
theorem zt_popI (hi : z_ins m pc = some (.pop, 1)) : z_T g d m pc ls (.int x :: st) h P = z_T g d m (pc + 1) ls st h P := zt_goN hi (Or.inr rfl) rfl
theorem zt_goto {off : Int} {t : Nat} (hi : z_ins m pc = some (.goto off, 3)) (ht : (pc : Int) + off = (t : Int)) : z_T g d m pc ls st h P = z_T g d m t ls st h P := zt_goN hi (Or.inr rfl) (by simp only [z_op, z_tgt_of ht, Option.bind_some])
theorem zt_putI {ci : Nat} (hi : z_ins m pc = some (.putfield idx, 3)) (hf : z_fl (z_own m) idx = some (ci, k, false, false)) : z_T g d m pc ls (.int x :: .ref a :: st) h P = z_pF h.1 a ci k (.int x) (fun f => z_T g d m (pc + 3) ls st (f, h.2) P) := by
  unfold z_pF
  split
  · next ci' fs hh =>
    by_cases hc : ci' = ci ∧ k < fs.length
    · obtain ⟨rfl, hc⟩ := hc
      simp only [hc, true_and]
      exact zt_goN hi (Or.inr rfl) (by simp only [z_op, hf, hh]; rw [if_pos ⟨trivial, hc, (fun q => by cases q), rfl⟩])
    · rw [← and_assoc, eq_false hc, false_and]
      exact zt_noN hi (Or.inr rfl) (by simp only [z_op, hf, hh]; rw [if_neg (fun q => hc ⟨q.1, q.2.1⟩)])
  · next hn =>
    refine zt_noN hi (Or.inr rfl) ?_
    simp only [z_op, hf]
    split
    · next e1 e2 => exact (hn _ _ e2).elim
    · rfl
/-- a final field in its class's constructor, or one that isn't final: a reference -/
theorem zt_putR {ci : Nat} {fin : Bool} (hi : z_ins m pc = some (.putfield idx, 3)) (hf : z_fl (z_own m) idx = some (ci, k, true, fin)) (hq : fin = true → z_isInit m = true ∧ (vwCl[ci]?).map (fun q => q.1) = some (z_own m)) : z_T g d m pc ls (.ref b :: .ref a :: st) h P = z_pF h.1 a ci k (.ref b) (fun f => z_T g d m (pc + 3) ls st (f, h.2) P) := by
  unfold z_pF
  split
  · next ci' fs hh =>
    by_cases hc : ci' = ci ∧ k < fs.length
    · obtain ⟨rfl, hc⟩ := hc
      simp only [hc, true_and]
      exact zt_goN hi (Or.inr rfl) (by simp only [z_op, hf, hh]; rw [if_pos ⟨trivial, hc, hq, rfl⟩])
    · rw [← and_assoc, eq_false hc, false_and]
      exact zt_noN hi (Or.inr rfl) (by simp only [z_op, hf, hh]; rw [if_neg (fun q => hc ⟨q.1, q.2.1⟩)])
  · next hn =>
    refine zt_noN hi (Or.inr rfl) ?_
    simp only [z_op, hf]
    split
    · next e1 e2 => exact (hn _ _ e2).elim
    · rfl
theorem zt_iaload (hi : z_ins m pc = some (.iaload, 1)) : z_T g d m pc ls (.int x :: .ref a :: st) h P = z_aL h.1 a z_tI x (fun v => z_T g d m (pc + 1) ls (.int v :: st) h P) := by
  have key : ∀ v, z_rd h g .iaload (.ref a) x = some v → z_T g d m pc ls (.int x :: .ref a :: st) h P = z_T g d m (pc + 1) ls (v :: st) h P := fun v hv => zt_goN hi (Or.inr rfl) (by simp only [z_op, hv, Option.bind_some])
  have no : z_rd h g .iaload (.ref a) x = none → z_T g d m pc ls (.int x :: .ref a :: st) h P = False := fun hv => zt_noN hi (Or.inr rfl) (by simp only [z_op, hv, Option.bind_none])
  unfold z_aL
  split
  · next ty n c hh =>
    by_cases q : z_idx x n = true
    · cases ty with
      | int => simp only [z_tI, q, true_and]; exact key _ (by simp only [z_rd, hh, q, if_true])
      | _ => simp only [z_tI, Bool.false_eq_true, false_and]; exact no (by simp only [z_rd, hh, q, if_true])
    · simp only [q, Bool.false_eq_true, false_and, and_false]; exact no (by simp only [z_rd, hh, q, Bool.false_eq_true, if_false])
  · next hn =>
    refine no ?_
    simp only [z_rd]
    split
    · next ty n f hh =>
      split
      · split <;> first | rfl | (exact (hn _ _ _ hh).elim) | (rename_i q; cases q)
      · rfl
    · rfl
theorem zt_baload (hi : z_ins m pc = some (.baload, 1)) : z_T g d m pc ls (.int x :: .ref a :: st) h P = z_aL h.1 a z_tB x (fun v => z_T g d m (pc + 1) ls (.int v :: st) h P) := by
  have key : ∀ v, z_rd h g .baload (.ref a) x = some v → z_T g d m pc ls (.int x :: .ref a :: st) h P = z_T g d m (pc + 1) ls (v :: st) h P := fun v hv => zt_goN hi (Or.inr rfl) (by simp only [z_op, hv, Option.bind_some])
  have no : z_rd h g .baload (.ref a) x = none → z_T g d m pc ls (.int x :: .ref a :: st) h P = False := fun hv => zt_noN hi (Or.inr rfl) (by simp only [z_op, hv, Option.bind_none])
  unfold z_aL
  split
  · next ty n c hh =>
    by_cases q : z_idx x n = true
    · cases ty with
      | byte => simp only [z_tB, q, true_and]; exact key _ (by simp only [z_rd, hh, q, if_true])
      | boolean => simp only [z_tB, q, true_and]; exact key _ (by simp only [z_rd, hh, q, if_true])
      | _ => simp only [z_tB, Bool.false_eq_true, false_and]; exact no (by simp only [z_rd, hh, q, if_true])
    · simp only [q, Bool.false_eq_true, false_and, and_false]; exact no (by simp only [z_rd, hh, q, Bool.false_eq_true, if_false])
  · next hn =>
    refine no ?_
    simp only [z_rd]
    split
    · next ty n f hh =>
      split
      · split <;> first | rfl | (exact (hn _ _ _ hh).elim) | (rename_i q; cases q)
      · rfl
    · rfl
theorem zt_laload (hi : z_ins m pc = some (.laload, 1)) : z_T g d m pc ls (.int x :: .ref a :: st) h P = z_lL h.1 a x (fun v => z_T g d m (pc + 1) ls (.long v :: st) h P) := by
  have key : ∀ v, z_rd h g .laload (.ref a) x = some v → z_T g d m pc ls (.int x :: .ref a :: st) h P = z_T g d m (pc + 1) ls (v :: st) h P := fun v hv => zt_goN hi (Or.inr rfl) (by simp only [z_op, hv, Option.bind_some])
  have no : z_rd h g .laload (.ref a) x = none → z_T g d m pc ls (.int x :: .ref a :: st) h P = False := fun hv => zt_noN hi (Or.inr rfl) (by simp only [z_op, hv, Option.bind_none])
  unfold z_lL
  split
  · next n c hh =>
    by_cases q : z_idx x n = true
    · simp only [q, true_and]; exact key _ (by simp only [z_rd, hh, q, if_true])
    · simp only [q, Bool.false_eq_true, false_and]; exact no (by simp only [z_rd, hh, q, Bool.false_eq_true, if_false])
  · next hn =>
    refine no ?_
    simp only [z_rd]
    split
    · next ty n f hh =>
      split
      · split <;> first | rfl | (exact (hn _ _ hh).elim) | (rename_i q; cases q)
      · rfl
    · rfl
theorem zt_aaload (hi : z_ins m pc = some (.aaload, 1)) : z_T g d m pc ls (.int x :: .ref a :: st) h P = z_qL h.1 a x (fun v => z_T g d m (pc + 1) ls (.ref v :: st) h P) := by
  have key : ∀ v, z_rd h g .aaload (.ref a) x = some v → z_T g d m pc ls (.int x :: .ref a :: st) h P = z_T g d m (pc + 1) ls (v :: st) h P := fun v hv => zt_goN hi (Or.inr rfl) (by simp only [z_op, hv, Option.bind_some])
  have no : z_rd h g .aaload (.ref a) x = none → z_T g d m pc ls (.int x :: .ref a :: st) h P = False := fun hv => zt_noN hi (Or.inr rfl) (by simp only [z_op, hv, Option.bind_none])
  unfold z_qL
  split
  · next n c hh =>
    by_cases q : z_idx x n = true
    · simp only [q, true_and]
      split
      · next r hr => exact key _ (by simp only [z_rd, hh, q, if_true, hr])
      · next hr => exact no (by simp only [z_rd, hh, q, if_true, hr])
    · simp only [q, Bool.false_eq_true, false_and]; exact no (by simp only [z_rd, hh, q, Bool.false_eq_true, if_false])
  · next hn =>
    refine no ?_
    simp only [z_rd]
    split
    · next ty n f hh =>
      split
      · split <;> first | rfl | (exact (hn _ _ hh).elim) | (rename_i q; cases q)
      · rfl
    · rfl
theorem zt_iastore (hi : z_ins m pc = some (.iastore, 1)) : z_T g d m pc ls (.int y :: .int x :: .ref a :: st) h P = z_aS h.1 a z_tI x y (fun f => z_T g d m (pc + 1) ls st (f, h.2) P) := by
  have key : ∀ v, z_wr h .iastore a x (.int y) = some v → z_T g d m pc ls (.int y :: .int x :: .ref a :: st) h P = z_T g d m (pc + 1) ls st v P := fun v hv => zt_goN hi (Or.inr rfl) (by simp only [z_op, hv, Option.bind_some])
  have no : z_wr h .iastore a x (.int y) = none → z_T g d m pc ls (.int y :: .int x :: .ref a :: st) h P = False := fun hv => zt_noN hi (Or.inr rfl) (by simp only [z_op, hv, Option.bind_none])
  unfold z_aS
  split
  · next ty n c hh =>
    by_cases q : z_idx x n = true
    · cases ty with
      | int => simp only [z_tI, q, true_and]; exact key _ (by simp only [z_wr, hh, q, if_true])
      | _ => simp only [z_tI, Bool.false_eq_true, false_and]; exact no (by simp only [z_wr, hh, q, if_true])
    · simp only [q, Bool.false_eq_true, false_and, and_false]; exact no (by simp only [z_wr, hh, q, Bool.false_eq_true, if_false])
  · next hn =>
    refine no ?_
    simp only [z_wr]
    split
    · next ty n f hh =>
      split
      · split <;> first | rfl | (exact (hn _ _ _ hh).elim) | (rename_i q; cases q)
      · rfl
    · rfl
theorem zt_bastore (hi : z_ins m pc = some (.bastore, 1)) : z_T g d m pc ls (.int y :: .int x :: .ref a :: st) h P = z_aS h.1 a z_tB x y (fun f => z_T g d m (pc + 1) ls st (f, h.2) P) := by
  have key : ∀ v, z_wr h .bastore a x (.int y) = some v → z_T g d m pc ls (.int y :: .int x :: .ref a :: st) h P = z_T g d m (pc + 1) ls st v P := fun v hv => zt_goN hi (Or.inr rfl) (by simp only [z_op, hv, Option.bind_some])
  have no : z_wr h .bastore a x (.int y) = none → z_T g d m pc ls (.int y :: .int x :: .ref a :: st) h P = False := fun hv => zt_noN hi (Or.inr rfl) (by simp only [z_op, hv, Option.bind_none])
  unfold z_aS
  split
  · next ty n c hh =>
    by_cases q : z_idx x n = true
    · cases ty with
      | byte => simp only [z_tB, q, true_and]; exact key _ (by simp only [z_wr, hh, q, if_true])
      | boolean => simp only [z_tB, q, true_and]; exact key _ (by simp only [z_wr, hh, q, if_true])
      | _ => simp only [z_tB, Bool.false_eq_true, false_and]; exact no (by simp only [z_wr, hh, q, if_true])
    · simp only [q, Bool.false_eq_true, false_and, and_false]; exact no (by simp only [z_wr, hh, q, Bool.false_eq_true, if_false])
  · next hn =>
    refine no ?_
    simp only [z_wr]
    split
    · next ty n f hh =>
      split
      · split <;> first | rfl | (exact (hn _ _ _ hh).elim) | (rename_i q; cases q)
      · rfl
    · rfl
theorem zt_lastore {u : Int64} (hi : z_ins m pc = some (.lastore, 1)) : z_T g d m pc ls (.long u :: .int x :: .ref a :: st) h P = z_lS h.1 a x u (fun f => z_T g d m (pc + 1) ls st (f, h.2) P) := by
  have key : ∀ v, z_wr h .lastore a x (.long u) = some v → z_T g d m pc ls (.long u :: .int x :: .ref a :: st) h P = z_T g d m (pc + 1) ls st v P := fun v hv => zt_goN hi (Or.inr rfl) (by simp only [z_op, hv, Option.bind_some])
  have no : z_wr h .lastore a x (.long u) = none → z_T g d m pc ls (.long u :: .int x :: .ref a :: st) h P = False := fun hv => zt_noN hi (Or.inr rfl) (by simp only [z_op, hv, Option.bind_none])
  unfold z_lS
  split
  · next n c hh =>
    by_cases q : z_idx x n = true
    · simp only [q, true_and]; exact key _ (by simp only [z_wr, hh, q, if_true])
    · simp only [q, Bool.false_eq_true, false_and]; exact no (by simp only [z_wr, hh, q, Bool.false_eq_true, if_false])
  · next hn =>
    refine no ?_
    simp only [z_wr]
    split
    · next ty n f hh =>
      split
      · split <;> first | rfl | (exact (hn _ _ hh).elim) | (rename_i q; cases q)
      · rfl
    · rfl
theorem zt_new {ci N : Nat} {fs : List Value} (hi : z_ins m pc = some (.new idx, 3)) (hw : z_nw (z_own m) idx = some (ci, N, fs)) : z_T g d m pc ls st h P = z_nO h ci N fs (fun q h' => z_T g d m (pc + 3) ls (.ref q :: st) h' P) := by
  unfold z_nO
  split
  · next q hq => exact zt_goN hi (Or.inr rfl) (by simp only [z_op, hw, hq])
  · next hq => exact zt_noN hi (Or.inr rfl) (by simp only [z_op, hw, hq])
theorem zt_newarray {t : ArrayType} (hi : z_ins m pc = some (.newarray t, 2)) : z_T g d m pc ls (.int x :: st) h P = z_nA h t x (fun q h' => z_T g d m (pc + 2) ls (.ref q :: st) h' P) := by
  unfold z_nA
  split
  · next q hq => exact zt_goN hi (Or.inr rfl) (by simp only [z_op, hq, Option.bind_some])
  · next hq => exact zt_noN hi (Or.inr rfl) (by simp only [z_op, hq, Option.bind_none])
theorem zt_multi (hi : z_ins m pc = some (.multianewarray idx 2, 4)) (hw : (z_lookup z_mas (z_own m, idx)).isSome = true) : z_T g d m pc ls (.int y :: .int x :: st) h P = z_nM h x y (fun q h' => z_T g d m (pc + 4) ls (.ref q :: st) h' P) := by
  unfold z_nM
  split
  · next q hq => exact zt_goN hi (Or.inr rfl) (by simp only [z_op, hw, hq, Option.bind_some, and_self, if_true])
  · next hq => exact zt_noN hi (Or.inr rfl) (by simp only [z_op, hw, hq, Option.bind_none, and_self, if_true])
theorem zt_objInit {wi : Nat} (hi : z_ins m pc = some (.invokespecial idx, 3)) (hw : z_lookup z_ois (z_own m, idx) = some wi) : z_T g d m pc ls (.ref a :: st) h P = (z_okS 8 st = true ∧ z_T g d m (pc + 3) ls st h P) := by
  by_cases q : z_okS 8 st = true
  · simp only [q, true_and]
    refine zt_goN hi (Or.inr rfl) ?_
    simp only [z_op, hw, Option.isSome_some, if_true]
    rw [if_pos ((z_okS_iff 8 st).mp q)]
  · rw [eq_false q, false_and]
    refine zt_noN hi (Or.inr rfl) ?_
    simp only [z_op, hw, Option.isSome_some, if_true]
    rw [if_neg (fun z => q ((z_okS_iff 8 st).mpr z))]
theorem zt_ireturn (hi : z_ins m pc = some (.ireturn, 1)) (hr : z_rt m = some .int) : z_T g d m pc ls [.int x] h P = P (.inr (some (.int x)), h) := zt_ret ((z_semI hi (Or.inr rfl)).trans (by simp only [z_op, z_ret, hr]))
theorem zt_zreturn (hi : z_ins m pc = some (.ireturn, 1)) (hr : z_rt m = some .boolean) : z_T g d m pc ls [.int x] h P = ((x = nI 0 ∨ x = nI 1) ∧ P (.inr (some (.int x)), h)) := by
  by_cases q : x = nI 0 ∨ x = nI 1
  · simp only [q, true_and]; exact zt_ret ((z_semI hi (Or.inr rfl)).trans (by simp only [z_op, z_ret, hr]; rw [if_pos (show x = 0 ∨ x = 1 from q)]))
  · rw [eq_false q, false_and]; exact zt_none ((z_semI hi (Or.inr rfl)).trans (by simp only [z_op, z_ret, hr]; rw [if_neg (show ¬ (x = 0 ∨ x = 1) from q)]))
theorem zt_return (hi : z_ins m pc = some (.return_, 1)) (hr : z_rt m = none) : z_T g d m pc ls [] h P = P (.inr none, h) := zt_ret ((z_semI hi (Or.inr rfl)).trans (by simp only [z_op, hr, and_self, if_true]))
theorem zt_throwN (hi : z_ins m pc = some (.new idx, 3)) (hw : z_nw (z_own m) idx = none) (ht : z_th m pc (z_own m) idx = some E) (hh : z_hds m = []) : z_T g d m pc ls [] h P = P (.inl E, (h.1, none, h.2.2.1 + 1, h.2.2.2 + 6)) := zt_throw ((z_semI hi (Or.inr rfl)).trans (by simp only [z_op, hw, ht, Option.bind_some, hh, and_self, if_true]))
-- calls
theorem z_recv_eq {ci : Nat} (hci : (vwCl[ci]?).map (fun q => q.1) = some (z_own m')) : (z_recv h m' (some (.ref a)) = true) = z_gO h.1 a ci := by
  unfold z_recv z_gO
  dsimp only
  cases hh : h.1 a with
  | none => simp
  | some cc =>
    cases cc with
    | inl x => simp
    | inr x =>
      obtain ⟨ci', fs⟩ := x
      dsimp only
      cases hcl : vwCl[ci']? with
      | none =>
        refine propext ⟨(fun q => by cases q), fun q => ?_⟩
        subst q
        rw [hcl] at hci
        cases hci
      | some qq =>
        obtain ⟨C, T9⟩ := qq
        dsimp only
        refine propext ⟨fun q => ?_, fun q => ?_⟩
        · have q := of_decide_eq_true q
          cases hc : vwCl[ci]? with
          | none => rw [hc] at hci; cases hci
          | some qq => exact z_clnd _ (z_cl11 hcl) _ (z_cl11 hc) (by rw [hci, hcl, ← q]; rfl)
        · subst q
          rw [hcl] at hci
          exact decide_eq_true (Option.some.inj hci)
theorem z_call_ok {kk : Nat} {own : String} {kind : Nat} (hk : z_clk own idx = some (m', kind, n)) (hkk : (if kk = 2 then decide (2 ≤ kind) else decide (kind = kk)) = true) (hlen : as.length = (if kk = 1 then n else n + 1)) (hcat : (as.all fun v => decide (v.category = 1)) = true) (hst : z_okS 8 st = true)
    (hrec : (decide (kk = 1) || (if kk = 0 then z_recv h m' as.head? else z_isR as.head?)) = true) : z_call kk own idx ls (as.reverse ++ st) h = some (.inl (.inr (m', as, st))) := by
  unfold z_call
  rw [hk]
  dsimp only
  rw [hkk]
  simp only [if_true]
  have ha : z_args (if kk = 1 then n else n + 1) (as.reverse ++ st) = some (as, st) := by
    unfold z_args
    rw [← hlen, if_pos (by simp)]
    rw [List.take_left' (by simp), List.drop_left' (by simp), List.reverse_reverse]
  rw [ha]
  dsimp only
  obtain ⟨h1, h2⟩ := (z_okS_iff 8 st).mp hst
  rw [hrec, Bool.true_and, if_pos]
  refine decide_eq_true ⟨h1, fun v hv => ?_⟩
  rcases List.mem_append.mp hv with z | z
  · exact h2 v z
  · exact of_decide_eq_true (List.all_eq_true.mp hcat v z)
theorem z_call_no {kk : Nat} {own : String} {kind : Nat} (hk : z_clk own idx = some (m', kind, n)) (hlen : as.length = (if kk = 1 then n else n + 1))
    (hno : z_okS 8 st = false ∨ (decide (kk = 1) || (if kk = 0 then z_recv h m' as.head? else z_isR as.head?)) = false) : z_call kk own idx ls (as.reverse ++ st) h = none := by
  unfold z_call
  rw [hk]
  dsimp only
  generalize (if kk = 2 then decide (2 ≤ kind) else decide (kind = kk)) = b
  cases b with
  | false => rfl
  | true =>
    simp only [if_true]
    have ha : z_args (if kk = 1 then n else n + 1) (as.reverse ++ st) = some (as, st) := by
      unfold z_args
      rw [← hlen, if_pos (by simp)]
      rw [List.take_left' (by simp), List.drop_left' (by simp), List.reverse_reverse]
    rw [ha]
    dsimp only
    rcases hno with q | q
    · rw [if_neg]
      intro z
      have z2 := (Bool.and_eq_true _ _ ▸ z).2
      have z3 := of_decide_eq_true z2
      have : z_okS 8 st = true := (z_okS_iff 8 st).mpr ⟨z3.1, fun v hv => z3.2 v (List.mem_append_left _ hv)⟩
      rw [q] at this
      cases this
    · rw [q, Bool.false_and]
      rfl
theorem zt_callV {ci : Nat} (hi : z_ins m pc = some (.invokevirtual idx, 3)) (hp : z_lookup z_prs (z_own m, idx) = none) (hk : z_clk (z_own m) idx = some (m', 0, n)) (hh : z_hds m = []) (hci : (vwCl[ci]?).map (fun q => q.1) = some (z_own m')) (hlen : as.length = n) (hcat : (as.all fun v => decide (v.category = 1)) = true) {stk : List Value} (hs : (Value.ref a :: as).reverse ++ st = stk) :
    z_T g d m pc ls stk h P = ((z_okS 8 st = true ∧ z_gO h.1 a ci ∧ 0 < d) ∧ z_Ca g (d - 1) m' (.ref a :: as) h (fun r => z_k r (fun v h' => z_T g d m (pc + 3) ls (z_push v st) h' P) P)) := by
  subst hs
  have e : z_op g m pc (.invokevirtual idx) ls ((Value.ref a :: as).reverse ++ st) h = z_call 0 (z_own m) idx ls ((Value.ref a :: as).reverse ++ st) h := by simp only [z_op, hp]
  by_cases q : z_okS 8 st = true ∧ z_gO h.1 a ci
  · obtain ⟨q1, q2⟩ := q
    have hr : z_recv h m' (some (.ref a)) = true := by rw [z_recv_eq hci]; exact q2
    rw [zt_call hh ((z_semI hi (Or.inr rfl)).trans (e.trans (z_call_ok (as := .ref a :: as) (kk := 0) (kind := 0) hk rfl (by simp [hlen]) (by simpa [Value.category] using hcat) q1 (by simpa using hr))))]
    simp only [q1, q2, true_and]
  · have : z_call 0 (z_own m) idx ls ((Value.ref a :: as).reverse ++ st) h = none := by
      refine z_call_no (kk := 0) hk (by simp [hlen]) ?_
      by_cases q1 : z_okS 8 st = true
      · refine Or.inr ?_
        cases hr : z_recv h m' (some (.ref a)) with
        | false => simpa using hr
        | true => exact absurd ⟨q1, by rw [z_recv_eq hci] at hr; exact hr⟩ q
      · exact Or.inl (by simpa using q1)
    rw [zt_noN hi (Or.inr rfl) (e.trans this)]
    refine propext ⟨False.elim, fun z => (q ⟨z.1.1, z.1.2.1⟩).elim⟩
theorem zt_callS0 (hi : z_ins m pc = some (.invokestatic idx, 3)) (hp : z_lookup z_prs (z_own m, idx) = none) (hk : z_clk (z_own m) idx = some (m', 1, n)) (hh : z_hds m = []) (hlen : as.length = n) (hcat : (as.all fun v => decide (v.category = 1)) = true) {stk : List Value} (hs : as.reverse ++ st = stk) :
    z_T g d m pc ls stk h P = ((z_okS 8 st = true ∧ 0 < d) ∧ z_Ca g (d - 1) m' as h (fun r => z_k r (fun v h' => z_T g d m (pc + 3) ls (z_push v st) h' P) P)) := by
  subst hs
  have e : z_op g m pc (.invokestatic idx) ls (as.reverse ++ st) h = z_call 1 (z_own m) idx ls (as.reverse ++ st) h := by simp only [z_op, hp]
  by_cases q1 : z_okS 8 st = true
  · rw [zt_call hh ((z_semI hi (Or.inr rfl)).trans (e.trans (z_call_ok (kk := 1) (kind := 1) hk rfl (by simp [hlen]) hcat q1 (by simp))))]
    simp only [q1, true_and]
  · have : z_call 1 (z_own m) idx ls (as.reverse ++ st) h = none := z_call_no (kk := 1) hk (by simp [hlen]) (Or.inl (by simpa using q1))
    rw [zt_noN hi (Or.inr rfl) (e.trans this)]
    simp only [q1, Bool.false_eq_true, false_and]
theorem zt_callI {kind : Nat} (hi : z_ins m pc = some (.invokespecial idx, 3)) (hp : z_lookup z_ois (z_own m, idx) = none) (hk : z_clk (z_own m) idx = some (m', kind, n)) (hkd : 2 ≤ kind) (hh : z_hds m = []) (hlen : as.length = n) (hcat : (as.all fun v => decide (v.category = 1)) = true) {stk : List Value} (hs : (Value.ref a :: as).reverse ++ st = stk) :
    z_T g d m pc ls stk h P = ((z_okS 8 st = true ∧ 0 < d) ∧ z_Ca g (d - 1) m' (.ref a :: as) h (fun r => z_k r (fun v h' => z_T g d m (pc + 3) ls (z_push v st) h' P) P)) := by
  have e : z_op g m pc (.invokespecial idx) ls stk h = z_call 2 (z_own m) idx ls stk h := by
    simp only [z_op, hp]
    split <;> rfl
  subst hs
  by_cases q1 : z_okS 8 st = true
  · rw [zt_call hh ((z_semI hi (Or.inr rfl)).trans (e.trans (z_call_ok (as := .ref a :: as) (kk := 2) (kind := kind) hk (by simp [hkd]) (by simp [hlen]) (by simpa [Value.category] using hcat) q1 (by simp [z_isR]))))]
    simp only [q1, true_and]
  · have : z_call 2 (z_own m) idx ls ((Value.ref a :: as).reverse ++ st) h = none := z_call_no (kk := 2) hk (by simp [hlen]) (Or.inl (by simpa using q1))
    rw [zt_noN hi (Or.inr rfl) (e.trans this)]
    simp only [q1, Bool.false_eq_true, false_and]
-- calls from a method with handlers
theorem zt_callVH {ci : Nat} (hi : z_ins m pc = some (.invokevirtual idx, 3)) (hp : z_lookup z_prs (z_own m, idx) = none) (hk : z_clk (z_own m) idx = some (m', 0, n)) (hh : z_hds m ≠ []) (hci : (vwCl[ci]?).map (fun q => q.1) = some (z_own m')) (hlen : as.length = n) (hcat : (as.all fun v => decide (v.category = 1)) = true) {stk : List Value} (hs : (Value.ref a :: as).reverse ++ st = stk) :
    z_T g d m pc ls stk h P = ((z_okS 8 st = true ∧ z_gO h.1 a ci ∧ 0 < d) ∧ z_Ca g (d - 1) m' (.ref a :: as) h (fun r => z_kH m pc ls r (fun v h' => z_T g d m (pc + 3) ls (z_push v st) h' P) (fun pc' ls' h' => z_T g d m pc' ls' [] h' P))) := by
  subst hs
  have e : z_op g m pc (.invokevirtual idx) ls ((Value.ref a :: as).reverse ++ st) h = z_call 0 (z_own m) idx ls ((Value.ref a :: as).reverse ++ st) h := by simp only [z_op, hp]
  by_cases q : z_okS 8 st = true ∧ z_gO h.1 a ci
  · obtain ⟨q1, q2⟩ := q
    have hr : z_recv h m' (some (.ref a)) = true := by rw [z_recv_eq hci]; exact q2
    rw [zt_callH hh ((z_semI hi (Or.inr rfl)).trans (e.trans (z_call_ok (as := .ref a :: as) (kk := 0) (kind := 0) hk rfl (by simp [hlen]) (by simpa [Value.category] using hcat) q1 (by simpa using hr))))]
    simp only [q1, q2, true_and]
  · have : z_call 0 (z_own m) idx ls ((Value.ref a :: as).reverse ++ st) h = none := by
      refine z_call_no (kk := 0) hk (by simp [hlen]) ?_
      by_cases q1 : z_okS 8 st = true
      · refine Or.inr ?_
        cases hr : z_recv h m' (some (.ref a)) with
        | false => simpa using hr
        | true => exact absurd ⟨q1, by rw [z_recv_eq hci] at hr; exact hr⟩ q
      · exact Or.inl (by simpa using q1)
    rw [zt_noN hi (Or.inr rfl) (e.trans this)]
    refine propext ⟨False.elim, fun z => (q ⟨z.1.1, z.1.2.1⟩).elim⟩
-- primitives
theorem zt_prim {pp wi : Nat} (hi : z_ins m pc = some (.invokevirtual idx, 3)) (hp : z_lookup z_prs (z_own m, idx) = some (pp, wi)) (hpp : pp < 2) {stk : List Value} (hok : z_okS 8 stk = true) (hv : z_prim pp stk = some st') : z_T g d m pc ls stk h P = z_T g d m (pc + 3) ls st' h P := by
  refine zt_goN hi (Or.inr rfl) ?_
  simp only [z_op, hp]
  rw [if_pos ⟨hpp, (z_okS_iff 8 stk).mp hok⟩, hv, Option.bind_some]
theorem zt_primS {pp wi : Nat} (hi : z_ins m pc = some (.invokestatic idx, 3)) (hp : z_lookup z_prs (z_own m, idx) = some (pp, wi)) (hpp : 2 ≤ pp) {stk : List Value} (hok : z_okS 8 stk = true) (hv : z_prim pp stk = some st') : z_T g d m pc ls stk h P = z_T g d m (pc + 3) ls st' h P := by
  refine zt_goN hi (Or.inr rfl) ?_
  simp only [z_op, hp]
  rw [if_pos ⟨hpp, (z_okS_iff 8 stk).mp hok⟩, hv, Option.bind_some]
-- a switch, one value
theorem zt_swIn {dd lo hi9 : Int} {offs : Array Int} {ln : Nat} {o : Int} {t : Nat} (hi : z_ins m pc = some (.tableswitch dd lo hi9 offs, ln)) (h1 : lo ≤ x.toInt) (h2 : x.toInt ≤ hi9) (ho : offs[(x.toInt - lo).toNat]? = some o) (ht : (pc : Int) + o = (t : Int)) : z_T g d m pc ls (.int x :: st) h P = z_T g d m t ls st h P := by
  refine zt_goN hi (Or.inl rfl) ?_
  simp only [z_op]
  rw [if_neg (by omega), ho, Option.bind_some, z_tgt_of ht, Option.bind_some]
theorem zt_swOut {dd lo hi9 : Int} {offs : Array Int} {ln : Nat} {t : Nat} (hi : z_ins m pc = some (.tableswitch dd lo hi9 offs, ln)) (h1 : x.toInt < lo ∨ hi9 < x.toInt) (ht : (pc : Int) + dd = (t : Int)) : z_T g d m pc ls (.int x :: st) h P = z_T g d m t ls st h P := by
  refine zt_goN hi (Or.inl rfl) ?_
  simp only [z_op]
  rw [if_pos h1, z_tgt_of ht, Option.bind_some]
theorem zt_swL {dd : Int} {ps : Array (Int × Int)} {ln : Nat} {t : Nat} (hi : z_ins m pc = some (.lookupswitch dd ps, ln)) (h1 : (ps.toList.zip (ps.toList.drop 1)).all (fun (a, next) => a.1 < next.1) = true) (ht : (pc : Int) + Op.lookupswitch.offset ps.toList dd x.toInt = (t : Int)) : z_T g d m pc ls (.int x :: st) h P = z_T g d m t ls st h P := by
  refine zt_goN hi (Or.inl rfl) ?_
  simp only [z_op]
  rw [if_pos h1, z_tgt_of ht, Option.bind_some]
-- the script
theorem zt_script (hi : z_ins m pc = some (.iaload, 1)) (hx : z_idx x g.1 = true) : z_T g d m pc ls (.int x :: .retAddr 99 :: st) h P = z_T g d m (pc + 1) ls (.int (g.2 x.toNatClampNeg) :: st) h P := zt_goN hi (Or.inr rfl) (by simp only [z_op, z_rd, hx, if_true, Option.bind_some])
theorem zt_slen (hi : z_ins m pc = some (.arraylength, 1)) : z_T g d m pc ls (.retAddr 99 :: st) h P = z_T g d m (pc + 1) ls (.int (nI g.1) :: st) h P := zt_goN hi (Or.inr rfl) rfl
end ZW2
