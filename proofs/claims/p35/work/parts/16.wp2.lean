/-! more equations: constants, locals, fields, arrays, calls, ends -/
theorem z_clnd : ∀ i, i < 13 → ∀ j, j < 13 → (vwCl[i]?).map (fun q => q.1) = (vwCl[j]?).map (fun q => q.1) → i = j := by decide +kernel
theorem z_cl11 {i : Nat} {q : vw_C} (h : vwCl[i]? = some q) : i < 13 := (List.getElem?_eq_some_iff.mp h).1
def z_nO (h : z_H) (ci N : Nat) (fs : List Value) (K : Nat → z_H → Prop) : Prop := match h.2.1 with
  | some q => K q (z_up h.1 q (.inr (ci, fs)), some (q + 1), h.2.2.1 + 1, h.2.2.2 + N)
  | none => False
def z_nA (h : z_H) (t : ArrayType) (n : Int32) (K : Nat → z_H → Prop) : Prop := match z_na h t n with
  | some q => K q.1 q.2
  | none => False
def z_nM (t : FieldType) (h : z_H) (n k : Int32) (K : Nat → z_H → Prop) : Prop := match z_ma2 t h n k with
  | some q => K q.1 q.2
  | none => False
def z_nM3 (h : z_H) (n k l : Int32) (K : Nat → z_H → Prop) : Prop := match z_ma3 h n k l with
  | some q => K q.1 q.2
  | none => False
/-- new int[n][] -/
def z_nN (h : z_H) (n : Int32) (K : Nat → z_H → Prop) : Prop := match z_an h n with
  | some q => K q.1 q.2
  | none => False
/-- a clone -/
def z_nC (h : z_H) (k a : Nat) (K : Nat → z_H → Prop) : Prop := match z_cln h k a with
  | some q => K q.1 q.2
  | none => False
/-- System.arraycopy -/
def z_cP (h : z_H) (src : Value) (sp : Int32) (dst : Nat) (dp n : Int32) (K : z_H → Prop) : Prop := match z_cpy h src sp dst dp n with
  | some q => K q
  | none => False
/-- the length of an array of bytes or booleans -/
def z_aN (f : Nat → Option z_C) (a : Nat) (K : Nat → Prop) : Prop := match f a with
  | some (.inl (.byte, n, _)) => K n
  | some (.inl (.boolean, n, _)) => K n
  | _ => False
/-- an array of ints is put into an array of arrays -/
def z_aA (f : Nat → Option z_C) (a : Nat) (j : Int32) (r : Nat) (K : (Nat → Option z_C) → Prop) : Prop := match f a with
  | some (.inl (.array .int, n, .inr (.inr (.inr (.inr c))))) => z_idx j n = true ∧ (∃ n' F, f r = some (.inl (.int, n', F))) ∧ K (z_up f a (.inl (.array .int, n, .inr (.inr (.inr (.inr (va_up c j.toNatClampNeg (some r))))))))
  | _ => False
section ZW2
variable {g : z_G} {n d m pc pc' m' idx : Nat} {ls ls' st st' as r9 : List Value} {h h' : z_H} {P : z_Res → Prop} {i : Instr} {v : Option Value} {E : String}
variable {k : Nat} {x y : Int32} {a b : Nat} {w : Value}
theorem zt_iconst {z : Int} (hi : z_ins m pc = some (.iconst z, 1)) (hv : Int32.ofInt z = x) : z_T g d m pc ls st h P = z_T g d m (pc + 1) ls (.int x :: st) h P := by subst hv; exact zt_goN hi (Or.inr rfl) rfl
theorem zt_bipush {z : Int} (hi : z_ins m pc = some (.bipush z, 2)) (hv : (Int8.ofInt z).toInt32 = x) : z_T g d m pc ls st h P = z_T g d m (pc + 2) ls (.int x :: st) h P := by subst hv; exact zt_goN hi (Or.inr rfl) rfl
theorem zt_sipush {z : Int} (hi : z_ins m pc = some (.sipush z, 3)) (hv : (Int16.ofInt z).toInt32 = x) : z_T g d m pc ls st h P = z_T g d m (pc + 3) ls (.int x :: st) h P := by subst hv; exact zt_goN hi (Or.inr rfl) rfl
theorem zt_ldcw {wi : Nat} (hi : z_ins m pc = some (.ldc_w idx, 3)) (hk : z_lookup z_kss (z_own m, idx) = some (x, wi)) : z_T g d m pc ls st h P = z_T g d m (pc + 3) ls (.int x :: st) h P := zt_goN hi (Or.inr rfl) (by simp only [z_op, hk])
theorem zt_ldc (hi : z_ins m pc = some (.ldc idx, 2)) (hk : z_lookup z_srs (z_own m, idx) = some k) : z_T g d m pc ls st h P = z_T g d m (pc + 2) ls (.retAddr k :: st) h P := zt_goN hi (Or.inr rfl) (by simp only [z_op, hk])
theorem zt_ldcI {wi : Nat} (hi : z_ins m pc = some (.ldc idx, 2)) (h0 : z_lookup z_srs (z_own m, idx) = none) (hk : z_lookup z_kss (z_own m, idx) = some (x, wi)) : z_T g d m pc ls st h P = z_T g d m (pc + 2) ls (.int x :: st) h P := zt_goN hi (Or.inr rfl) (by simp only [z_op, h0, hk])
theorem zt_null (hi : z_ins m pc = some (.aconst_null, 1)) : z_T g d m pc ls st h P = z_T g d m (pc + 1) ls (.null :: st) h P := zt_goN hi (Or.inr rfl) rfl
theorem zt_static {wi : Nat} (hi : z_ins m pc = some (.getstatic idx, 3)) (hk : z_lookup z_gss (z_own m, idx) = some (k, wi)) (hv : (if k = 0 then Value.int 1 else Value.retAddr 97) = w) : z_T g d m pc ls st h P = z_T g d m (pc + 3) ls (w :: st) h P := by subst hv; exact zt_goN hi (Or.inr rfl) (by simp only [z_op, hk])
theorem z_ldI (hl : ls[k]? = some (.int x)) : z_ld ls k true = some (.int x) := by unfold z_ld; rw [hl]; rfl
theorem z_ldR (hl : ls[k]? = some (.ref a)) : z_ld ls k false = some (.ref a) := by unfold z_ld; rw [hl]; rfl
theorem z_ldS (hl : ls[k]? = some (.retAddr a)) : z_ld ls k false = some (.retAddr a) := by unfold z_ld; rw [hl]; rfl
theorem z_ldN (hl : ls[k]? = some .null) : z_ld ls k false = some .null := by unfold z_ld; rw [hl]; rfl
theorem zt_iloadn {j : Fin 4} (hi : z_ins m pc = some (.iload_n j, 1)) (hj : (j : Nat) = k) (hl : ls[k]? = some (.int x)) : z_T g d m pc ls st h P = z_T g d m (pc + 1) ls (.int x :: st) h P := by subst hj; exact zt_goN hi (Or.inr rfl) (by simp only [z_op, z_ldI hl, Option.bind_some])
theorem zt_iload (hi : z_ins m pc = some (.iload k, 2)) (hl : ls[k]? = some (.int x)) : z_T g d m pc ls st h P = z_T g d m (pc + 2) ls (.int x :: st) h P := zt_goN hi (Or.inr rfl) (by simp only [z_op, z_ldI hl, Option.bind_some])
theorem zt_aloadn {j : Fin 4} (hi : z_ins m pc = some (.aload_n j, 1)) (hj : (j : Nat) = k) (hl : ls[k]? = some (.ref a)) : z_T g d m pc ls st h P = z_T g d m (pc + 1) ls (.ref a :: st) h P := by subst hj; exact zt_goN hi (Or.inr rfl) (by simp only [z_op, z_ldR hl, Option.bind_some])
theorem zt_aload (hi : z_ins m pc = some (.aload k, 2)) (hl : ls[k]? = some (.ref a)) : z_T g d m pc ls st h P = z_T g d m (pc + 2) ls (.ref a :: st) h P := zt_goN hi (Or.inr rfl) (by simp only [z_op, z_ldR hl, Option.bind_some])
theorem zt_aloadnS {j : Fin 4} (hi : z_ins m pc = some (.aload_n j, 1)) (hj : (j : Nat) = k) (hl : ls[k]? = some (.retAddr a)) : z_T g d m pc ls st h P = z_T g d m (pc + 1) ls (.retAddr a :: st) h P := by subst hj; exact zt_goN hi (Or.inr rfl) (by simp only [z_op, z_ldS hl, Option.bind_some])
theorem zt_aloadS (hi : z_ins m pc = some (.aload k, 2)) (hl : ls[k]? = some (.retAddr a)) : z_T g d m pc ls st h P = z_T g d m (pc + 2) ls (.retAddr a :: st) h P := zt_goN hi (Or.inr rfl) (by simp only [z_op, z_ldS hl, Option.bind_some])
theorem zt_aloadnN {j : Fin 4} (hi : z_ins m pc = some (.aload_n j, 1)) (hj : (j : Nat) = k) (hl : ls[k]? = some .null) : z_T g d m pc ls st h P = z_T g d m (pc + 1) ls (.null :: st) h P := by subst hj; exact zt_goN hi (Or.inr rfl) (by simp only [z_op, z_ldN hl, Option.bind_some])
theorem zt_aloadN (hi : z_ins m pc = some (.aload k, 2)) (hl : ls[k]? = some .null) : z_T g d m pc ls st h P = z_T g d m (pc + 2) ls (.null :: st) h P := zt_goN hi (Or.inr rfl) (by simp only [z_op, z_ldN hl, Option.bind_some])
theorem zt_istoren {j : Fin 4} (hi : z_ins m pc = some (.istore_n j, 1)) (hj : (j : Nat) = k) (hl : k < ls.length) : z_T g d m pc ls (.int x :: st) h P = z_T g d m (pc + 1) (ls.set k (.int x)) st h P := by subst hj; exact zt_goN hi (Or.inr rfl) (by simp only [z_op, if_pos hl])
theorem zt_istore (hi : z_ins m pc = some (.istore k, 2)) (hl : k < ls.length) : z_T g d m pc ls (.int x :: st) h P = z_T g d m (pc + 2) (ls.set k (.int x)) st h P := zt_goN hi (Or.inr rfl) (by simp only [z_op, if_pos hl])
theorem zt_astoren {j : Fin 4} (hw : z_isA w = true) (hi : z_ins m pc = some (.astore_n j, 1)) (hj : (j : Nat) = k) (hl : k < ls.length) : z_T g d m pc ls (w :: st) h P = z_T g d m (pc + 1) (ls.set k w) st h P := by subst hj; exact zt_goN hi (Or.inr rfl) (by simp only [z_op]; rw [if_pos ⟨hw, hl⟩])
theorem zt_astore (hw : z_isA w = true) (hi : z_ins m pc = some (.astore k, 2)) (hl : k < ls.length) : z_T g d m pc ls (w :: st) h P = z_T g d m (pc + 2) (ls.set k w) st h P := zt_goN hi (Or.inr rfl) (by simp only [z_op]; rw [if_pos ⟨hw, hl⟩])
theorem zt_iinc {z : Int} (hi : z_ins m pc = some (.iinc k z, 3)) (hv : Int32.ofInt z = y) (hl : ls[k]? = some (.int x)) : z_T g d m pc ls st h P = z_T g d m (pc + 3) (ls.set k (.int (x + y))) st h P := by subst hv; exact zt_goN hi (Or.inr rfl) (by simp only [z_op, hl])
theorem zt_bin {f : Int32 → Int32 → Int32} (hi : z_ins m pc = some (i, 1)) (hn : z_len i = 1) (ho : ∀ ls st h, z_op g m pc i ls (.int y :: .int x :: st) h = z_go (pc + 1) ls (.int (f x y) :: st) h) : z_T g d m pc ls (.int y :: .int x :: st) h P = z_T g d m (pc + 1) ls (.int (f x y) :: st) h P := zt_goN hi (Or.inr hn.symm) (ho _ _ _)
theorem zt_idiv (hi : z_ins m pc = some (.idiv, 1)) : z_T g d m pc ls (.int y :: .int x :: st) h P = (¬ y = nI 0 ∧ z_T g d m (pc + 1) ls (.int (x / y) :: st) h P) := by
  by_cases q : y = nI 0
  · have q' : y = 0 := q
    simp only [q, not_true, false_and]; exact zt_noN hi (Or.inr rfl) (by simp only [z_op]; rw [if_pos (show nI 0 = 0 from rfl)])
  · simp only [q, not_false_iff, true_and]; exact zt_goN hi (Or.inr rfl) (by simp only [z_op]; rw [if_neg (show ¬ y = 0 from q)])
theorem zt_irem (hi : z_ins m pc = some (.irem, 1)) : z_T g d m pc ls (.int y :: .int x :: st) h P = (¬ y = nI 0 ∧ z_T g d m (pc + 1) ls (.int (x - x / y * y) :: st) h P) := by
  by_cases q : y = nI 0
  · simp only [q, not_true, false_and]; exact zt_noN hi (Or.inr rfl) (by simp only [z_op]; rw [if_pos (show nI 0 = 0 from rfl)])
  · simp only [q, not_false_iff, true_and]; exact zt_goN hi (Or.inr rfl) (by simp only [z_op]; rw [if_neg (show ¬ y = 0 from q)])
theorem zt_ineg (hi : z_ins m pc = some (.ineg, 1)) : z_T g d m pc ls (.int x :: st) h P = z_T g d m (pc + 1) ls (.int (-x) :: st) h P := zt_goN hi (Or.inr rfl) rfl
theorem zt_i2c (hi : z_ins m pc = some (.i2c, 1)) : z_T g d m pc ls (.int x :: st) h P = z_T g d m (pc + 1) ls (.int (x.toUInt32 % 65536).toInt32 :: st) h P := zt_goN hi (Or.inr rfl) rfl
theorem zt_i2b (hi : z_ins m pc = some (.i2b, 1)) : z_T g d m pc ls (.int x :: st) h P = z_T g d m (pc + 1) ls (.int x.toInt8.toInt32 :: st) h P := zt_goN hi (Or.inr rfl) rfl
theorem zt_dup (hw : w.category = 1) (hi : z_ins m pc = some (.dup, 1)) : z_T g d m pc ls (w :: st) h P = z_T g d m (pc + 1) ls (w :: w :: st) h P := zt_goN hi (Or.inr rfl) (by simp only [z_op]; rw [if_pos hw])
theorem zt_dupx {v : Value} (hw : v.category = 1 ∧ w.category = 1) (hi : z_ins m pc = some (.dup_x1, 1)) : z_T g d m pc ls (v :: w :: st) h P = z_T g d m (pc + 1) ls (v :: w :: v :: st) h P := zt_goN hi (Or.inr rfl) (by simp only [z_op]; rw [if_pos hw])
theorem zt_dup2 {v : Value} (hw : v.category = 1 ∧ w.category = 1) (hi : z_ins m pc = some (.dup2, 1)) : z_T g d m pc ls (v :: w :: st) h P = z_T g d m (pc + 1) ls (v :: w :: v :: w :: st) h P := zt_goN hi (Or.inr rfl) (by simp only [z_op]; rw [if_pos hw])
theorem zt_pop (hw : w.category = 1) (hi : z_ins m pc = some (.pop, 1)) : z_T g d m pc ls (w :: st) h P = z_T g d m (pc + 1) ls st h P := zt_goN hi (Or.inr rfl) (by simp only [z_op]; rw [if_pos hw])
theorem zt_nullN {off : Int} {t : Nat} (hi : z_ins m pc = some (.ifnull off, 3)) (ht : (pc : Int) + off = (t : Int)) : z_T g d m pc ls (.null :: st) h P = z_T g d m t ls st h P := zt_goN hi (Or.inr rfl) (by simp only [z_op, z_tgt_of ht, Option.bind_some])
theorem zt_nullR {off : Int} (hi : z_ins m pc = some (.ifnull off, 3)) : z_T g d m pc ls (.ref a :: st) h P = z_T g d m (pc + 3) ls st h P := zt_goN hi (Or.inr rfl) (by simp only [z_op])
theorem zt_nullS {off : Int} (hi : z_ins m pc = some (.ifnull off, 3)) : z_T g d m pc ls (.retAddr a :: st) h P = z_T g d m (pc + 3) ls st h P := zt_goN hi (Or.inr rfl) (by simp only [z_op])
theorem zt_nnulN {off : Int} (hi : z_ins m pc = some (.ifnonnull off, 3)) : z_T g d m pc ls (.null :: st) h P = z_T g d m (pc + 3) ls st h P := zt_goN hi (Or.inr rfl) (by simp only [z_op])
theorem zt_nnulR {off : Int} {t : Nat} (hi : z_ins m pc = some (.ifnonnull off, 3)) (ht : (pc : Int) + off = (t : Int)) : z_T g d m pc ls (.ref a :: st) h P = z_T g d m t ls st h P := zt_goN hi (Or.inr rfl) (by simp only [z_op, z_tgt_of ht, Option.bind_some])
theorem zt_nnulS {off : Int} {t : Nat} (hi : z_ins m pc = some (.ifnonnull off, 3)) (ht : (pc : Int) + off = (t : Int)) : z_T g d m pc ls (.retAddr a :: st) h P = z_T g d m t ls st h P := zt_goN hi (Or.inr rfl) (by simp only [z_op, z_tgt_of ht, Option.bind_some])
theorem zt_goto {off : Int} {t : Nat} (hi : z_ins m pc = some (.goto off, 3)) (ht : (pc : Int) + off = (t : Int)) : z_T g d m pc ls st h P = z_T g d m t ls st h P := zt_goN hi (Or.inr rfl) (by simp only [z_op, z_tgt_of ht, Option.bind_some])
/-- a field is written: not final, or in its class's constructor -/
theorem zt_put {ci : Nat} {isR fin : Bool} (hi : z_ins m pc = some (.putfield idx, 3)) (hf : z_fl (z_own m) idx = some (ci, k, isR, fin)) (hq : fin = true → z_isInit m = true ∧ z_dcl ci k = z_own m) (hv : z_vk w isR = true) (hn : z_nrw ci k w = true) : z_T g d m pc ls (w :: .ref a :: st) h P = z_pF h.1 a ci k w (fun f => z_T g d m (pc + 3) ls st (f, h.2) P) := by
  unfold z_pF
  split
  · next ci' fs hh =>
    by_cases hc : ci' = ci ∧ k < fs.length
    · obtain ⟨rfl, hc⟩ := hc
      simp only [hc, true_and]
      exact zt_goN hi (Or.inr rfl) (by simp only [z_op, hf, hh]; rw [if_pos ⟨trivial, hc, hq, hv, hn⟩])
    · rw [← and_assoc, eq_false hc, false_and]
      exact zt_noN hi (Or.inr rfl) (by simp only [z_op, hf, hh]; rw [if_neg (fun q => hc ⟨q.1, q.2.1⟩)])
  · next hno =>
    refine zt_noN hi (Or.inr rfl) ?_
    simp only [z_op, hf]
    split
    · next e1 e2 => exact (hno _ _ e2).elim
    · rfl
/-- the text of a literal -/
theorem zt_getL0 {isR fin : Bool} (hi : z_ins m pc = some (.getfield idx, 3)) (hf : z_fl (z_own m) idx = some (11, 0, isR, fin)) (hb : b < 6) : z_T g d m pc ls (.retAddr b :: st) h P = z_T g d m (pc + 3) ls (.retAddr (50 + b) :: st) h P := zt_goN hi (Or.inr rfl) (by simp only [z_op, hf, if_pos hb])
theorem zt_getL1 {isR fin : Bool} (hi : z_ins m pc = some (.getfield idx, 3)) (hf : z_fl (z_own m) idx = some (11, 1, isR, fin)) (hb : b < 6) : z_T g d m pc ls (.retAddr b :: st) h P = z_T g d m (pc + 3) ls (.int (nI 0) :: st) h P := zt_goN hi (Or.inr rfl) (by simp only [z_op, hf, if_pos hb]; rfl)
theorem zt_iaload (hi : z_ins m pc = some (.iaload, 1)) : z_T g d m pc ls (.int x :: .ref a :: st) h P = z_aL h.1 a z_tI x (fun v => z_T g d m (pc + 1) ls (.int v :: st) h P) := by
  have key : ∀ v, z_rd h g .iaload (.ref a) x = some v → z_T g d m pc ls (.int x :: .ref a :: st) h P = z_T g d m (pc + 1) ls (v :: st) h P := fun v hv => zt_goN hi (Or.inr rfl) (by simp only [z_op, hv, Option.bind_some])
  have no : z_rd h g .iaload (.ref a) x = none → z_T g d m pc ls (.int x :: .ref a :: st) h P = False := fun hv => zt_noN hi (Or.inr rfl) (by simp only [z_op, hv, Option.bind_none])
  unfold z_aL
  split
  · next ty n c hh =>
    by_cases q : z_idx x n = true
    · cases ty with
      | int => simp only [z_tI, q, true_and]; exact key _ (by simp only [z_rd, hh, q, if_true])
      | _ => simp only [z_tI, Bool.false_eq_true, false_and]; exact no (by simp only [z_rd, hh, q, if_true])
    · simp only [q, Bool.false_eq_true, false_and, and_false]; exact no (by simp only [z_rd, hh, q, Bool.false_eq_true, if_false])
  · next hn =>
    refine no ?_
    simp only [z_rd]
    split
    · next ty n f hh =>
      split
      · split <;> first | rfl | (exact (hn _ _ _ hh).elim) | (rename_i q; cases q)
      · rfl
    · rfl
theorem zt_baload (hi : z_ins m pc = some (.baload, 1)) : z_T g d m pc ls (.int x :: .ref a :: st) h P = z_aL h.1 a z_tB x (fun v => z_T g d m (pc + 1) ls (.int v :: st) h P) := by
  have key : ∀ v, z_rd h g .baload (.ref a) x = some v → z_T g d m pc ls (.int x :: .ref a :: st) h P = z_T g d m (pc + 1) ls (v :: st) h P := fun v hv => zt_goN hi (Or.inr rfl) (by simp only [z_op, hv, Option.bind_some])
  have no : z_rd h g .baload (.ref a) x = none → z_T g d m pc ls (.int x :: .ref a :: st) h P = False := fun hv => zt_noN hi (Or.inr rfl) (by simp only [z_op, hv, Option.bind_none])
  unfold z_aL
  split
  · next ty n c hh =>
    by_cases q : z_idx x n = true
    · cases ty with
      | byte => simp only [z_tB, q, true_and]; exact key _ (by simp only [z_rd, hh, q, if_true])
      | boolean => simp only [z_tB, q, true_and]; exact key _ (by simp only [z_rd, hh, q, if_true])
      | _ => simp only [z_tB, Bool.false_eq_true, false_and]; exact no (by simp only [z_rd, hh, q, if_true])
    · simp only [q, Bool.false_eq_true, false_and, and_false]; exact no (by simp only [z_rd, hh, q, Bool.false_eq_true, if_false])
  · next hn =>
    refine no ?_
    simp only [z_rd]
    split
    · next ty n f hh =>
      split
      · split <;> first | rfl | (exact (hn _ _ _ hh).elim) | (rename_i q; cases q)
      · rfl
    · rfl
theorem zt_aaload (hi : z_ins m pc = some (.aaload, 1)) : z_T g d m pc ls (.int x :: .ref a :: st) h P = z_qL h.1 a x (fun v => z_T g d m (pc + 1) ls (.ref v :: st) h P) := by
  have key : ∀ v, z_rd h g .aaload (.ref a) x = some v → z_T g d m pc ls (.int x :: .ref a :: st) h P = z_T g d m (pc + 1) ls (v :: st) h P := fun v hv => zt_goN hi (Or.inr rfl) (by simp only [z_op, hv, Option.bind_some])
  have no : z_rd h g .aaload (.ref a) x = none → z_T g d m pc ls (.int x :: .ref a :: st) h P = False := fun hv => zt_noN hi (Or.inr rfl) (by simp only [z_op, hv, Option.bind_none])
  unfold z_qL
  split
  · next ty n c hh =>
    by_cases q : z_idx x n = true
    · have e : ∀ (ht : z_tQ ty = true), z_rd h g .aaload (.ref a) x = match c x.toNatClampNeg with
          | some r => some (.ref r)
          | none => none := by
        intro ht
        simp only [z_rd, hh, q, if_true]
        unfold z_tQ at ht
        split at ht <;> first | rfl | cases ht
      by_cases ht : z_tQ ty = true
      · simp only [ht, q, true_and]
        have e := e ht
        split
        · next r hr => rw [hr] at e; exact key _ e
        · next hr => rw [hr] at e; exact no e
      · simp only [ht, Bool.false_eq_true, false_and]
        refine no ?_
        simp only [z_rd, hh, q, if_true]
        split <;> first | rfl | (exact (ht rfl).elim) | (rename_i q; cases q)
    · simp only [q, Bool.false_eq_true, false_and, and_false]; exact no (by simp only [z_rd, hh, q, Bool.false_eq_true, if_false])
  · next hn =>
    refine no ?_
    simp only [z_rd]
    split
    · next ty n f hh =>
      split
      · split <;> first | rfl | (exact (hn _ _ _ hh).elim) | (rename_i q; cases q)
      · rfl
    · rfl
theorem zt_digit (hi : z_ins m pc = some (.baload, 1)) (hx : z_idx x 10 = true) : z_T g d m pc ls (.int x :: .retAddr 97 :: st) h P = z_T g d m (pc + 1) ls (.int (nI (48 + x.toNatClampNeg)) :: st) h P := zt_goN hi (Or.inr rfl) (by simp only [z_op, z_rd, hx, if_true, Option.bind_some])
theorem zt_iastore (hi : z_ins m pc = some (.iastore, 1)) : z_T g d m pc ls (.int y :: .int x :: .ref a :: st) h P = z_aS h.1 a z_tI x y (fun f => z_T g d m (pc + 1) ls st (f, h.2) P) := by
  have key : ∀ v, z_wr h .iastore a x (.int y) = some v → z_T g d m pc ls (.int y :: .int x :: .ref a :: st) h P = z_T g d m (pc + 1) ls st v P := fun v hv => zt_goN hi (Or.inr rfl) (by simp only [z_op, hv, Option.bind_some])
  have no : z_wr h .iastore a x (.int y) = none → z_T g d m pc ls (.int y :: .int x :: .ref a :: st) h P = False := fun hv => zt_noN hi (Or.inr rfl) (by simp only [z_op, hv, Option.bind_none])
  unfold z_aS
  split
  · next ty n c hh =>
    by_cases q : z_idx x n = true
    · cases ty with
      | int => simp only [z_tI, q, true_and]; exact key _ (by simp only [z_wr, hh, q, if_true])
      | _ => simp only [z_tI, Bool.false_eq_true, false_and]; exact no (by simp only [z_wr, hh, q, if_true])
    · simp only [q, Bool.false_eq_true, false_and, and_false]; exact no (by simp only [z_wr, hh, q, Bool.false_eq_true, if_false])
  · next hn =>
    refine no ?_
    simp only [z_wr]
    split
    · next ty n f hh =>
      split
      · split <;> first | rfl | (exact (hn _ _ _ hh).elim) | (rename_i q; cases q)
      · rfl
    · rfl
theorem zt_bastore (hi : z_ins m pc = some (.bastore, 1)) : z_T g d m pc ls (.int y :: .int x :: .ref a :: st) h P = z_aS h.1 a z_tB x y (fun f => z_T g d m (pc + 1) ls st (f, h.2) P) := by
  have key : ∀ v, z_wr h .bastore a x (.int y) = some v → z_T g d m pc ls (.int y :: .int x :: .ref a :: st) h P = z_T g d m (pc + 1) ls st v P := fun v hv => zt_goN hi (Or.inr rfl) (by simp only [z_op, hv, Option.bind_some])
  have no : z_wr h .bastore a x (.int y) = none → z_T g d m pc ls (.int y :: .int x :: .ref a :: st) h P = False := fun hv => zt_noN hi (Or.inr rfl) (by simp only [z_op, hv, Option.bind_none])
  unfold z_aS
  split
  · next ty n c hh =>
    by_cases q : z_idx x n = true
    · cases ty with
      | byte => simp only [z_tB, q, true_and]; exact key _ (by simp only [z_wr, hh, q, if_true])
      | boolean => simp only [z_tB, q, true_and]; exact key _ (by simp only [z_wr, hh, q, if_true])
      | _ => simp only [z_tB, Bool.false_eq_true, false_and]; exact no (by simp only [z_wr, hh, q, if_true])
    · simp only [q, Bool.false_eq_true, false_and, and_false]; exact no (by simp only [z_wr, hh, q, Bool.false_eq_true, if_false])
  · next hn =>
    refine no ?_
    simp only [z_wr]
    split
    · next ty n f hh =>
      split
      · split <;> first | rfl | (exact (hn _ _ _ hh).elim) | (rename_i q; cases q)
      · rfl
    · rfl
theorem zt_aastore (hi : z_ins m pc = some (.aastore, 1)) : z_T g d m pc ls (.ref b :: .int x :: .ref a :: st) h P = z_aA h.1 a x b (fun f => z_T g d m (pc + 1) ls st (f, h.2) P) := by
  have key : ∀ v, z_wr h .aastore a x (.ref b) = some v → z_T g d m pc ls (.ref b :: .int x :: .ref a :: st) h P = z_T g d m (pc + 1) ls st v P := fun v hv => zt_goN hi (Or.inr rfl) (by simp only [z_op, hv, Option.bind_some])
  have no : z_wr h .aastore a x (.ref b) = none → z_T g d m pc ls (.ref b :: .int x :: .ref a :: st) h P = False := fun hv => zt_noN hi (Or.inr rfl) (by simp only [z_op, hv, Option.bind_none])
  unfold z_aA
  split
  · next n c hh =>
    by_cases q : z_idx x n = true
    · by_cases r : z_isIA h b = true
      · have r' : ∃ n' F, h.1 b = some (.inl (.int, n', F)) := by
          unfold z_isIA at r
          split at r
          · next h1 => exact ⟨_, _, h1⟩
          · cases r
        simp only [q, eq_true r', true_and]
        exact key _ (by simp only [z_wr, hh, q, r, if_true])
      · have r' : ¬ ∃ n' F, h.1 b = some (.inl (.int, n', F)) := by
          rintro ⟨n', F, h1⟩
          exact r (by simp only [z_isIA, h1])
        simp only [eq_false r', false_and, and_false]
        exact no (by simp only [z_wr, hh, q, r, if_true, Bool.false_eq_true, if_false])
    · simp only [q, Bool.false_eq_true, false_and]; exact no (by simp only [z_wr, hh, q, Bool.false_eq_true, if_false])
  · next hn =>
    refine no ?_
    simp only [z_wr]
    split
    · next ty n f hh =>
      split
      · split <;> first | rfl | (exact (hn _ _ hh).elim) | (rename_i q; cases q)
      · rfl
    · rfl
theorem zt_alen (hi : z_ins m pc = some (.arraylength, 1)) : z_T g d m pc ls (.ref a :: st) h P = z_aN h.1 a (fun n => z_T g d m (pc + 1) ls (.int (nI n) :: st) h P) := by
  unfold z_aN
  split
  · next n c hh => exact zt_goN hi (Or.inr rfl) (by simp only [z_op, hh])
  · next n c hh => exact zt_goN hi (Or.inr rfl) (by simp only [z_op, hh])
  · next h1 h2 =>
    refine zt_noN hi (Or.inr rfl) ?_
    simp only [z_op]
theorem zt_alenL (hi : z_ins m pc = some (.arraylength, 1)) (hb : b < 6) : z_T g d m pc ls (.retAddr (50 + b) :: st) h P = z_T g d m (pc + 1) ls (.int (nI (z_lit b).length) :: st) h P := by
  refine zt_goN hi (Or.inr rfl) ?_
  have e : 50 + b - 50 = b := by omega
  have e2 : 50 + b ≠ 99 := by omega
  simp only [z_op]
  rw [if_pos (by omega), e]
theorem zt_new {ci N : Nat} {fs : List Value} (hi : z_ins m pc = some (.new idx, 3)) (hw : z_nw (z_own m) idx = some (ci, N, fs)) : z_T g d m pc ls st h P = z_nO h ci N fs (fun q h' => z_T g d m (pc + 3) ls (.ref q :: st) h' P) := by
  unfold z_nO
  split
  · next q hq => exact zt_goN hi (Or.inr rfl) (by simp only [z_op, hw, hq])
  · next hq => exact zt_noN hi (Or.inr rfl) (by simp only [z_op, hw, hq])
theorem zt_newarray {t : ArrayType} (hi : z_ins m pc = some (.newarray t, 2)) : z_T g d m pc ls (.int x :: st) h P = z_nA h t x (fun q h' => z_T g d m (pc + 2) ls (.ref q :: st) h' P) := by
  unfold z_nA
  split
  · next q hq => exact zt_goN hi (Or.inr rfl) (by simp only [z_op, hq, Option.bind_some])
  · next hq => exact zt_noN hi (Or.inr rfl) (by simp only [z_op, hq, Option.bind_none])
theorem zt_multi {ty : FieldType} {kd wi : Nat} (hi : z_ins m pc = some (.multianewarray idx 2, 4)) (hw : z_lookup z_mas (z_own m, idx) = some (kd, wi)) (hk : (kd = 0 ∧ ty = .int) ∨ (kd = 1 ∧ ty = .boolean)) : z_T g d m pc ls (.int y :: .int x :: st) h P = z_nM ty h x y (fun q h' => z_T g d m (pc + 4) ls (.ref q :: st) h' P) := by
  unfold z_nM
  rcases hk with ⟨rfl, rfl⟩ | ⟨rfl, rfl⟩
  all_goals
    split
    · next q hq => exact zt_goN hi (Or.inr rfl) (by simp only [z_op, hw, hq, Option.bind_some, if_true])
    · next hq => exact zt_noN hi (Or.inr rfl) (by simp only [z_op, hw, hq, Option.bind_none, if_true])
theorem zt_multi3 {wi : Nat} {x0 : Int32} (hi : z_ins m pc = some (.multianewarray idx 3, 4)) (hw : z_lookup z_mas (z_own m, idx) = some (2, wi)) : z_T g d m pc ls (.int y :: .int x :: .int x0 :: st) h P = z_nM3 h x0 x y (fun q h' => z_T g d m (pc + 4) ls (.ref q :: st) h' P) := by
  unfold z_nM3
  split
  · next q hq => exact zt_goN hi (Or.inr rfl) (by simp only [z_op, hw, hq, Option.bind_some, if_true])
  · next hq => exact zt_noN hi (Or.inr rfl) (by simp only [z_op, hw, hq, Option.bind_none, if_true])
theorem zt_anew {wi : Nat} (hi : z_ins m pc = some (.anewarray idx, 3)) (hw : z_lookup z_ccs (z_own m, idx) = some (0, wi)) : z_T g d m pc ls (.int x :: st) h P = z_nN h x (fun q h' => z_T g d m (pc + 3) ls (.ref q :: st) h' P) := by
  unfold z_nN
  split
  · next q hq => exact zt_goN hi (Or.inr rfl) (by simp only [z_op, hw, hq, Option.bind_some])
  · next hq => exact zt_noN hi (Or.inr rfl) (by simp only [z_op, hw, hq, Option.bind_none])
theorem zt_cast {wi : Nat} (hi : z_ins m pc = some (.checkcast idx, 3)) (hw : z_lookup z_ccs (z_own m, idx) = some (k, wi)) : z_T g d m pc ls (.ref a :: st) h P = (z_cst h k a = true ∧ z_T g d m (pc + 3) ls (.ref a :: st) h P) := by
  by_cases q : z_cst h k a = true
  · simp only [q, true_and]
    exact zt_goN hi (Or.inr rfl) (by simp only [z_op, hw, q, if_true])
  · rw [eq_false q, false_and]
    exact zt_noN hi (Or.inr rfl) (by simp only [z_op, hw, q, Bool.false_eq_true, if_false])
theorem zt_clone {wi : Nat} (hi : z_ins m pc = some (.invokevirtual idx, 3)) (hw : z_lookup z_cns (z_own m, idx) = some (k, wi)) : z_T g d m pc ls (.ref a :: st) h P = (z_okS 8 st = true ∧ z_nC h k a (fun q h' => z_T g d m (pc + 3) ls (.ref q :: st) h' P)) := by
  by_cases q : z_okS 8 st = true
  · simp only [q, true_and]
    unfold z_nC
    split
    · next z hz => exact zt_goN hi (Or.inr rfl) (by simp only [z_op, hw]; rw [if_pos ((z_okS_iff 8 st).mp q), hz, Option.bind_some])
    · next hz => exact zt_noN hi (Or.inr rfl) (by simp only [z_op, hw]; rw [if_pos ((z_okS_iff 8 st).mp q), hz, Option.bind_none])
  · rw [eq_false q, false_and]
    refine zt_noN hi (Or.inr rfl) ?_
    simp only [z_op, hw]
    rw [if_neg (fun z => q ((z_okS_iff 8 st).mpr z))]
theorem zt_copy {wi : Nat} {u : Int32} (hi : z_ins m pc = some (.invokestatic idx, 3)) (hw : z_lookup z_cps (z_own m, idx) = some wi) : z_T g d m pc ls (.int y :: .int x :: .ref a :: .int u :: w :: st) h P = (z_okS 8 st = true ∧ z_cP h w u a x y (fun h' => z_T g d m (pc + 3) ls st h' P)) := by
  by_cases q : z_okS 8 st = true
  · simp only [q, true_and]
    unfold z_cP
    split
    · next z hz => exact zt_goN hi (Or.inr rfl) (by simp only [z_op, hw]; rw [if_pos ((z_okS_iff 8 st).mp q), hz, Option.bind_some])
    · next hz => exact zt_noN hi (Or.inr rfl) (by simp only [z_op, hw]; rw [if_pos ((z_okS_iff 8 st).mp q), hz, Option.bind_none])
  · rw [eq_false q, false_and]
    refine zt_noN hi (Or.inr rfl) ?_
    simp only [z_op, hw]
    rw [if_neg (fun z => q ((z_okS_iff 8 st).mpr z))]
theorem zt_objInit {wi : Nat} (hi : z_ins m pc = some (.invokespecial idx, 3)) (hw : z_lookup z_ois (z_own m, idx) = some wi) : z_T g d m pc ls (.ref a :: st) h P = (z_okS 8 st = true ∧ z_T g d m (pc + 3) ls st h P) := by
  by_cases q : z_okS 8 st = true
  · simp only [q, true_and]
    refine zt_goN hi (Or.inr rfl) ?_
    simp only [z_op, hw, Option.isSome_some, if_true]
    rw [if_pos ((z_okS_iff 8 st).mp q)]
  · rw [eq_false q, false_and]
    refine zt_noN hi (Or.inr rfl) ?_
    simp only [z_op, hw, Option.isSome_some, if_true]
    rw [if_neg (fun z => q ((z_okS_iff 8 st).mpr z))]
theorem zt_ireturn (hi : z_ins m pc = some (.ireturn, 1)) (hr : z_rt m = some .int) : z_T g d m pc ls [.int x] h P = P (.inr (some (.int x)), h) := zt_ret ((z_semI hi (Or.inr rfl)).trans (by simp only [z_op, z_ret, hr]))
theorem zt_zreturn (hi : z_ins m pc = some (.ireturn, 1)) (hr : z_rt m = some .boolean) : z_T g d m pc ls [.int x] h P = ((x = nI 0 ∨ x = nI 1) ∧ P (.inr (some (.int x)), h)) := by
  by_cases q : x = nI 0 ∨ x = nI 1
  · simp only [q, true_and]; exact zt_ret ((z_semI hi (Or.inr rfl)).trans (by simp only [z_op, z_ret, hr]; rw [if_pos (show x = 0 ∨ x = 1 from q)]))
  · rw [eq_false q, false_and]; exact zt_none ((z_semI hi (Or.inr rfl)).trans (by simp only [z_op, z_ret, hr]; rw [if_neg (show ¬ (x = 0 ∨ x = 1) from q)]))
theorem zt_narrow {t : FieldType} (hi : z_ins m pc = some (.ireturn, 1)) (hr : z_rt m = some t) (ht : t = .byte ∨ t = .char) : z_T g d m pc ls [.int x] h P = (vp_nar t x = x ∧ P (.inr (some (.int x)), h)) := by
  by_cases q : vp_nar t x = x
  · simp only [q, true_and]
    rcases ht with rfl | rfl
    all_goals exact zt_ret ((z_semI hi (Or.inr rfl)).trans (by simp only [z_op, z_ret, hr]; rw [if_pos q]))
  · rw [eq_false q, false_and]
    rcases ht with rfl | rfl
    all_goals exact zt_none ((z_semI hi (Or.inr rfl)).trans (by simp only [z_op, z_ret, hr]; rw [if_neg q]))
theorem zt_areturn {t : FieldType} (hw : z_isA w = true) (hi : z_ins m pc = some (.areturn, 1)) (hr : z_rt m = some t) (ht : z_isRt t = true) : z_T g d m pc ls [w] h P = P (.inr (some w), h) := zt_ret ((z_semI hi (Or.inr rfl)).trans (by simp only [z_op, z_reta, hr, hw, ht, Bool.and_self, if_true]))
theorem zt_return (hi : z_ins m pc = some (.return_, 1)) (hr : z_rt m = none) : z_T g d m pc ls [] h P = P (.inr none, h) := zt_ret ((z_semI hi (Or.inr rfl)).trans (by simp only [z_op, hr, and_self, if_true]))
theorem zt_throwN (hi : z_ins m pc = some (.new idx, 3)) (hw : z_nw (z_own m) idx = none) (ht : z_th m pc (z_own m) idx = some E) (hh : z_hds m = []) : z_T g d m pc ls [] h P = P (.inl E, (h.1, h.2.1.map (· + 1), h.2.2.1 + 1, h.2.2.2 + 6)) := zt_throw ((z_semI hi (Or.inr rfl)).trans (by simp only [z_op, hw, ht, Option.bind_some, hh, and_self, if_true]))
-- calls
theorem z_recv_eq {ci : Nat} (hci : (vwCl[ci]?).map (fun q => q.1) = some (z_own m')) : (z_recv h m' (some (.ref a)) = true) = z_gO h.1 a ci := by
  unfold z_recv z_gO
  dsimp only
  cases hh : h.1 a with
  | none => simp
  | some cc =>
    cases cc with
    | inl x => simp
    | inr x =>
      obtain ⟨ci', fs⟩ := x
      dsimp only
      cases hcl : vwCl[ci']? with
      | none =>
        refine propext ⟨(fun q => by cases q), fun q => ?_⟩
        subst q
        rw [hcl] at hci
        cases hci
      | some qq =>
        obtain ⟨C, T9⟩ := qq
        dsimp only
        refine propext ⟨fun q => ?_, fun q => ?_⟩
        · have q := of_decide_eq_true q
          cases hc : vwCl[ci]? with
          | none => rw [hc] at hci; cases hci
          | some qq => exact z_clnd _ (z_cl11 hcl) _ (z_cl11 hc) (by rw [hci, hcl, ← q]; rfl)
        · subst q
          rw [hcl] at hci
          exact decide_eq_true (Option.some.inj hci)
/-- what a call's receiver must be -/
def z_rq (h : z_H) (kind ci m' : Nat) (v : Option Value) : Prop := z_rcv h kind m' v = true
theorem z_rcv0 {ci : Nat} (hci : (vwCl[ci]?).map (fun q => q.1) = some (z_own m')) : (z_rcv h 0 m' (some (.ref a)) = true) = z_gO h.1 a ci := z_recv_eq hci
theorem z_rcv4 {kind : Nat} (hk : 4 ≤ kind) : (z_rcv h kind m' (some (.ref a)) = true) = z_gO h.1 a 12 := by
  have e : z_rcv h kind m' (some (.ref a)) = z_sb h (some (.ref a)) := by
    unfold z_rcv
    split <;> first | omega | rfl
  rw [e]
  unfold z_sb z_gO
  dsimp only
  cases hh : h.1 a with
  | none => simp
  | some cc =>
    cases cc with
    | inl x => simp
    | inr x =>
      obtain ⟨ci', fs⟩ := x
      dsimp only
      by_cases q : ci' = 12
      · subst q; simp
      · rw [eq_false q]
        split
        · next e => cases e; exact (q rfl).elim
        · simp
theorem zt_cG {C : z_Res → Prop} {kk kind : Nat} {stk : List Value} (hi : z_ins m pc = some (i, 3)) (hl : z_len i = 3)
    (hc : z_sem g m pc ls stk h = some (.inl (.inr (m', as, st))) → z_T g d m pc ls stk h P = (0 < d ∧ z_Ca g (d - 1) m' as h C))
    (he : z_op g m pc i ls stk h = z_call kk (z_own m) idx ls stk h) (hk : z_clk (z_own m) idx = some (m', kind, n)) (hkd : z_kd kk kind = true) (hlen : as.length = (if kk = 1 then n else n + 1)) (hcat : (as.all fun v => decide (v.category = 1)) = true) (hs : as.reverse ++ st = stk) :
    z_T g d m pc ls stk h P = ((z_okS 8 st = true ∧ z_rcv h kind m' as.head? = true ∧ 0 < d) ∧ z_Ca g (d - 1) m' as h C) := by
  subst hs
  have ha : z_args (if kk = 1 then n else n + 1) (as.reverse ++ st) = some (as, st) := by
    unfold z_args
    rw [← hlen, if_pos (by simp)]
    rw [List.take_left' (by simp), List.drop_left' (by simp), List.reverse_reverse]
  have e : z_call kk (z_own m) idx ls (as.reverse ++ st) h = if (z_rcv h kind m' as.head? && decide (st.length ≤ 8 ∧ ∀ v ∈ st ++ as, v.category = 1)) = true then some (.inl (.inr (m', as, st))) else none := by
    unfold z_call
    rw [hk]
    dsimp only
    rw [hkd]
    simp only [if_true]
    rw [ha]
  by_cases q : z_okS 8 st = true ∧ z_rcv h kind m' as.head? = true
  · obtain ⟨q1, q2⟩ := q
    obtain ⟨h1, h2⟩ := (z_okS_iff 8 st).mp q1
    have z : (z_rcv h kind m' as.head? && decide (st.length ≤ 8 ∧ ∀ v ∈ st ++ as, v.category = 1)) = true := by
      rw [q2, Bool.true_and]
      refine decide_eq_true ⟨h1, fun v hv => ?_⟩
      rcases List.mem_append.mp hv with z | z
      · exact h2 v z
      · exact of_decide_eq_true (List.all_eq_true.mp hcat v z)
    rw [if_pos z] at e
    rw [hc ((z_semI hi (Or.inr hl.symm)).trans (he.trans e))]
    simp only [q1, q2, true_and]
  · have z : ¬ (z_rcv h kind m' as.head? && decide (st.length ≤ 8 ∧ ∀ v ∈ st ++ as, v.category = 1)) = true := by
      intro z
      have z1 := (Bool.and_eq_true _ _ ▸ z).1
      have z2 := of_decide_eq_true (Bool.and_eq_true _ _ ▸ z).2
      exact q ⟨(z_okS_iff 8 st).mpr ⟨z2.1, fun v hv => z2.2 v (List.mem_append_left _ hv)⟩, z1⟩
    rw [if_neg z] at e
    rw [zt_noN hi (Or.inr hl.symm) (he.trans e)]
    refine propext ⟨False.elim, fun z => (q ⟨z.1.1, z.1.2.1⟩).elim⟩
theorem z_opV {stk : List Value} (h1 : z_lookup z_cns (z_own m, idx) = none) (h2 : z_lookup z_prs (z_own m, idx) = none) : z_op g m pc (.invokevirtual idx) ls stk h = z_call 0 (z_own m) idx ls stk h := by simp only [z_op, h1, h2]
theorem z_opT {stk : List Value} (h1 : z_lookup z_cps (z_own m, idx) = none) (h2 : z_lookup z_prs (z_own m, idx) = none) : z_op g m pc (.invokestatic idx) ls stk h = z_call 1 (z_own m) idx ls stk h := by simp only [z_op, h1, h2]
theorem z_opI {stk : List Value} (h1 : z_lookup z_ois (z_own m, idx) = none) : z_op g m pc (.invokespecial idx) ls stk h = z_call 2 (z_own m) idx ls stk h := by
  simp only [z_op, h1]
  split <;> rfl
/-- a receiver of a class -/
theorem zt_cV {C : z_Res → Prop} {kk kind ci : Nat} {stk : List Value} (hi : z_ins m pc = some (i, 3)) (hl : z_len i = 3)
    (hc : z_sem g m pc ls stk h = some (.inl (.inr (m', .ref a :: as, st))) → z_T g d m pc ls stk h P = (0 < d ∧ z_Ca g (d - 1) m' (.ref a :: as) h C))
    (he : z_op g m pc i ls stk h = z_call kk (z_own m) idx ls stk h) (hk : z_clk (z_own m) idx = some (m', kind, n)) (hkd : z_kd kk kind = true) (hlen : (Value.ref a :: as).length = (if kk = 1 then n else n + 1)) (hcat : (as.all fun v => decide (v.category = 1)) = true) (hs : (Value.ref a :: as).reverse ++ st = stk) (hr : (z_rcv h kind m' (some (.ref a)) = true) = z_gO h.1 a ci) :
    z_T g d m pc ls stk h P = ((z_okS 8 st = true ∧ z_gO h.1 a ci ∧ 0 < d) ∧ z_Ca g (d - 1) m' (.ref a :: as) h C) := by
  rw [zt_cG hi hl hc he hk hkd hlen (by simpa [Value.category] using hcat) hs, List.head?_cons, hr]
/-- a receiver that is asked nothing (static, constructor, a literal) -/
theorem zt_cS {C : z_Res → Prop} {kk kind : Nat} {stk : List Value} (hi : z_ins m pc = some (i, 3)) (hl : z_len i = 3)
    (hc : z_sem g m pc ls stk h = some (.inl (.inr (m', as, st))) → z_T g d m pc ls stk h P = (0 < d ∧ z_Ca g (d - 1) m' as h C))
    (he : z_op g m pc i ls stk h = z_call kk (z_own m) idx ls stk h) (hk : z_clk (z_own m) idx = some (m', kind, n)) (hkd : z_kd kk kind = true) (hlen : as.length = (if kk = 1 then n else n + 1)) (hcat : (as.all fun v => decide (v.category = 1)) = true) (hs : as.reverse ++ st = stk) (hr : z_rcv h kind m' as.head? = true) :
    z_T g d m pc ls stk h P = ((z_okS 8 st = true ∧ 0 < d) ∧ z_Ca g (d - 1) m' as h C) := by
  rw [zt_cG hi hl hc he hk hkd hlen hcat hs, hr]
  simp only [true_and]
theorem z_rcvL (hb : b < 6) (ho : z_own m' = "java/lang/String") : z_rcv h 0 m' (some (.retAddr b)) = true := by
  simp [z_rcv, z_recv, hb, ho]
-- primitives
theorem zt_prim {pp wi : Nat} (hi : z_ins m pc = some (.invokevirtual idx, 3)) (h1 : z_lookup z_cns (z_own m, idx) = none) (hp : z_lookup z_prs (z_own m, idx) = some (pp, wi)) {stk : List Value} (hL : z_isL pp stk = true) (hok : z_okS 8 stk = true) (hv : z_prim pp stk = some st') : z_T g d m pc ls stk h P = z_T g d m (pc + 3) ls st' h P := by
  refine zt_goN hi (Or.inr rfl) ?_
  simp only [z_op, h1, hp]
  rw [if_pos ⟨hL, (z_okS_iff 8 stk).mp hok⟩, hv, Option.bind_some]
theorem zt_primS {pp wi : Nat} (hi : z_ins m pc = some (.invokestatic idx, 3)) (h1 : z_lookup z_cps (z_own m, idx) = none) (hp : z_lookup z_prs (z_own m, idx) = some (pp, wi)) (hpp : 2 ≤ pp) {stk : List Value} (hok : z_okS 8 stk = true) (hv : z_prim pp stk = some st') : z_T g d m pc ls stk h P = z_T g d m (pc + 3) ls st' h P := by
  refine zt_goN hi (Or.inr rfl) ?_
  simp only [z_op, h1, hp]
  rw [if_pos ⟨hpp, (z_okS_iff 8 stk).mp hok⟩, hv, Option.bind_some]
-- a switch, one value
theorem zt_swIn {dd lo hi9 : Int} {offs : Array Int} {ln : Nat} {o : Int} {t : Nat} (hi : z_ins m pc = some (.tableswitch dd lo hi9 offs, ln)) (h1 : lo ≤ x.toInt) (h2 : x.toInt ≤ hi9) (ho : offs[(x.toInt - lo).toNat]? = some o) (ht : (pc : Int) + o = (t : Int)) : z_T g d m pc ls (.int x :: st) h P = z_T g d m t ls st h P := by
  refine zt_goN hi (Or.inl rfl) ?_
  simp only [z_op]
  rw [if_neg (by omega), ho, Option.bind_some, z_tgt_of ht, Option.bind_some]
theorem zt_swOut {dd lo hi9 : Int} {offs : Array Int} {ln : Nat} {t : Nat} (hi : z_ins m pc = some (.tableswitch dd lo hi9 offs, ln)) (h1 : x.toInt < lo ∨ hi9 < x.toInt) (ht : (pc : Int) + dd = (t : Int)) : z_T g d m pc ls (.int x :: st) h P = z_T g d m t ls st h P := by
  refine zt_goN hi (Or.inl rfl) ?_
  simp only [z_op]
  rw [if_pos h1, z_tgt_of ht, Option.bind_some]
-- the script
theorem zt_script (hi : z_ins m pc = some (.iaload, 1)) (hx : z_idx x g.1 = true) : z_T g d m pc ls (.int x :: .retAddr 99 :: st) h P = z_T g d m (pc + 1) ls (.int (g.2 x.toNatClampNeg) :: st) h P := zt_goN hi (Or.inr rfl) (by simp only [z_op, z_rd, hx, if_true, Option.bind_some])
theorem zt_slen (hi : z_ins m pc = some (.arraylength, 1)) : z_T g d m pc ls (.retAddr 99 :: st) h P = z_T g d m (pc + 1) ls (.int (nI g.1) :: st) h P := zt_goN hi (Or.inr rfl) rfl
end ZW2
