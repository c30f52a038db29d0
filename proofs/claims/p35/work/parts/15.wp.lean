/-! the abstract machine's runs as propositions over what comes out: equations that a simplifier can go by -/
def z_T (g : z_G) (d m pc : Nat) (ls st : List Value) (h : z_H) (P : z_Res → Prop) : Prop := ∃ n r, z_rn g n d m pc ls st h = some r ∧ P r
def z_Ca (g : z_G) (d m : Nat) (as : List Value) (h : z_H) (P : z_Res → Prop) : Prop := as.length ≤ z_maxL m ∧ z_T g d m 0 (z_pad m as) [] h P
def z_push (v : Option Value) (st : List Value) : List Value := match v with
  | some x => x :: st
  | none => st
def z_k (r : z_Res) (K : Option Value → z_H → Prop) (P : z_Res → Prop) : Prop := match r.1 with
  | .inr v => K v r.2
  | .inl E => P (.inl E, r.2)
/-- a stack that a call may leave below -/
def z_okS : Nat → List Value → Bool
  | _, [] => true
  | 0, _ :: _ => false
  | n + 1, v :: r => decide (v.category = 1) && z_okS n r
theorem z_okS_iff : ∀ (n : Nat) (r : List Value), z_okS n r = true ↔ r.length ≤ n ∧ ∀ v ∈ r, v.category = 1
  | n, [] => by simp [z_okS]
  | 0, v :: r => by simp [z_okS]
  | n + 1, v :: r => by simp [z_okS, z_okS_iff n r]; constructor <;> (rintro ⟨a, b, c⟩; exact ⟨b, a, c⟩)
section ZWP
variable {g : z_G} {n d m pc pc' m' idx : Nat} {ls ls' st st' as r9 : List Value} {h h' : z_H} {P : z_Res → Prop} {i : Instr} {v : Option Value} {E : String}
theorem z_rn_up (g : z_G) : ∀ (n d m pc : Nat) (ls st : List Value) (h : z_H) (r : z_Res), z_rn g n d m pc ls st h = some r → z_rn g (n + 1) d m pc ls st h = some r := by
  intro n
  induction n with
  | zero => intro d m pc ls st h r hr; cases hr
  | succ n ih =>
    intro d m pc ls st h r hr
    unfold z_rn at hr ⊢
    split at hr
    · cases hr
    · next hs => (try rw [hs]); exact ih _ _ _ _ _ _ _ hr
    · next m' as r9 hs =>
      (try rw [hs])
      (try dsimp only)
      split at hr
      · cases hr
      · next d' =>
        split at hr
        · next hlen =>
          rw [if_pos hlen]
          split at hr
          · cases hr
          · next v h' hc =>
            rw [ih _ _ _ _ _ _ _ hc]
            exact ih _ _ _ _ _ _ _ hr
          · next E h' hc =>
            rw [ih _ _ _ _ _ _ _ hc]
            dsimp only
            split at hr
            · cases hr
            · next hJ =>
            rw [if_neg hJ]
            split at hr
            · next hh => rw [if_pos hh]; exact hr
            · next hh =>
              rw [if_neg hh]
              split at hr
              · next hd => (try rw [hd]); exact ih _ _ _ _ _ _ _ hr
              · cases hr
        · cases hr
    · next hs => (try rw [hs]); exact hr
    · next hs => (try rw [hs]); exact hr
theorem z_rn_le {n n' : Nat} (hn : n ≤ n') {r : z_Res} (hr : z_rn g n d m pc ls st h = some r) : z_rn g n' d m pc ls st h = some r := by
  obtain ⟨k, rfl⟩ := Nat.exists_eq_add_of_le hn
  clear hn
  induction k with
  | zero => exact hr
  | succ k ih => exact z_rn_up g _ _ _ _ _ _ _ _ ih
theorem zt_none (hs : z_sem g m pc ls st h = none) : z_T g d m pc ls st h P = False := by
  refine propext ⟨fun ⟨n, r, h1, h2⟩ => ?_, False.elim⟩
  cases n with
  | zero => cases h1
  | succ n => unfold z_rn at h1; rw [hs] at h1; cases h1
theorem zt_next (hs : z_sem g m pc ls st h = some (.inl (.inl (pc', ls', st', h')))) : z_T g d m pc ls st h P = z_T g d m pc' ls' st' h' P := by
  refine propext ⟨fun ⟨n, r, h1, h2⟩ => ?_, fun ⟨n, r, h1, h2⟩ => ⟨n + 1, r, ?_, h2⟩⟩
  · cases n with
    | zero => cases h1
    | succ n => unfold z_rn at h1; rw [hs] at h1; exact ⟨n, r, h1, h2⟩
  · unfold z_rn; rw [hs]; exact h1
theorem zt_ret (hs : z_sem g m pc ls st h = some (.inr (.inl v))) : z_T g d m pc ls st h P = P (.inr v, h) := by
  refine propext ⟨fun ⟨n, r, h1, h2⟩ => ?_, fun h2 => ⟨1, _, ?_, h2⟩⟩
  · cases n with
    | zero => cases h1
    | succ n => unfold z_rn at h1; rw [hs] at h1; cases h1; exact h2
  · unfold z_rn; rw [hs]
theorem zt_throw (hs : z_sem g m pc ls st h = some (.inr (.inr (E, h')))) : z_T g d m pc ls st h P = P (.inl E, h') := by
  refine propext ⟨fun ⟨n, r, h1, h2⟩ => ?_, fun h2 => ⟨1, _, ?_, h2⟩⟩
  · cases n with
    | zero => cases h1
    | succ n => unfold z_rn at h1; rw [hs] at h1; cases h1; exact h2
  · unfold z_rn; rw [hs]
/-- a call from a method without handlers -/
theorem zt_call (hj : z_jdk m = false) (hh : z_hds m = []) (hs : z_sem g m pc ls st h = some (.inl (.inr (m', as, r9)))) : z_T g d m pc ls st h P = (0 < d ∧ z_Ca g (d - 1) m' as h (fun r => z_k r (fun v h' => z_T g d m (pc + 3) ls (z_push v r9) h' P) P)) := by
  have pl : ∀ v : Option Value, v.toList ++ r9 = z_push v r9 := fun v => by cases v <;> rfl
  cases d with
  | zero =>
    refine propext ⟨fun ⟨n, r, h1, h2⟩ => ?_, fun q => absurd q.1 (Nat.lt_irrefl 0)⟩
    cases n with
    | zero => cases h1
    | succ n => unfold z_rn at h1; rw [hs] at h1; cases h1
  | succ d' =>
  refine propext ⟨fun ⟨n, r, h1, h2⟩ => ?_, fun ⟨hd, hlen, n, r, h1, h2⟩ => ?_⟩
  · cases n with
    | zero => cases h1
    | succ n =>
      unfold z_rn at h1
      rw [hs] at h1
      dsimp only at h1
      split at h1
      · next hlen =>
        refine ⟨Nat.succ_pos _, hlen, ?_⟩
        show z_T g d' m' 0 (z_pad m' as) [] h _
        split at h1
        · cases h1
        · next v h' hc =>
          refine ⟨n, _, hc, ?_⟩
          show z_T g (d' + 1) m (pc + 3) ls (z_push v r9) h' P
          rw [← pl]
          exact ⟨n, r, h1, h2⟩
        · next E h' hc =>
          (try rw [if_neg (by rw [hj]; exact Bool.false_ne_true)] at h1)
          (try rw [if_pos hh] at h1)
          cases h1
          exact ⟨n, _, hc, h2⟩
      · cases h1
  · have h1 : z_rn g n d' m' 0 (z_pad m' as) [] h = some r := h1
    obtain ⟨r1, r2⟩ := r
    cases r1 with
    | inr v =>
      obtain ⟨n2, r3, h3, h4⟩ := h2
      rw [← pl] at h3
      refine ⟨max n n2 + 1, r3, ?_, h4⟩
      unfold z_rn
      rw [hs]
      dsimp only
      rw [if_pos hlen, z_rn_le (Nat.le_max_left n n2) h1]
      exact z_rn_le (Nat.le_max_right n n2) h3
    | inl E =>
      refine ⟨n + 1, _, ?_, h2⟩
      unfold z_rn
      rw [hs]
      dsimp only
      rw [if_pos hlen, h1]
      dsimp only
      rw [if_neg (by rw [hj]; exact Bool.false_ne_true), if_pos hh]
/-- a call from a method with handlers -/
def z_kH (m pc : Nat) (ls : List Value) (r : z_Res) (K : Option Value → z_H → Prop) (X : Nat → List Value → z_H → Prop) : Prop := match r.1 with
  | .inr v => K v r.2
  | .inl E => match z_hd m pc E ls with
    | some (pc', ls') => X pc' ls' r.2
    | none => False
theorem zt_callH (hj : z_jdk m = false) (hh : z_hds m ≠ []) (hs : z_sem g m pc ls st h = some (.inl (.inr (m', as, r9)))) : z_T g d m pc ls st h P = (0 < d ∧ z_Ca g (d - 1) m' as h (fun r => z_kH m pc ls r (fun v h' => z_T g d m (pc + 3) ls (z_push v r9) h' P) (fun pc' ls' h' => z_T g d m pc' ls' [] h' P))) := by
  have pl : ∀ v : Option Value, v.toList ++ r9 = z_push v r9 := fun v => by cases v <;> rfl
  cases d with
  | zero =>
    refine propext ⟨fun ⟨n, r, h1, h2⟩ => ?_, fun q => absurd q.1 (Nat.lt_irrefl 0)⟩
    cases n with
    | zero => cases h1
    | succ n => unfold z_rn at h1; rw [hs] at h1; cases h1
  | succ d' =>
  refine propext ⟨fun ⟨n, r, h1, h2⟩ => ?_, fun ⟨hd, hlen, n, r, h1, h2⟩ => ?_⟩
  · cases n with
    | zero => cases h1
    | succ n =>
      unfold z_rn at h1
      rw [hs] at h1
      dsimp only at h1
      split at h1
      · next hlen =>
        refine ⟨Nat.succ_pos _, hlen, ?_⟩
        show z_T g d' m' 0 (z_pad m' as) [] h _
        split at h1
        · cases h1
        · next v h' hc =>
          refine ⟨n, _, hc, ?_⟩
          show z_T g (d' + 1) m (pc + 3) ls (z_push v r9) h' P
          rw [← pl]
          exact ⟨n, r, h1, h2⟩
        · next E h' hc =>
          (try rw [if_neg (by rw [hj]; exact Bool.false_ne_true)] at h1)
          (try rw [if_neg hh] at h1)
          refine ⟨n, _, hc, ?_⟩
          show (match z_hd m pc E ls with | some (pc', ls') => z_T g (d' + 1) m pc' ls' [] h' P | none => False)
          split at h1
          · next hx => rw [hx]; exact ⟨n, r, h1, h2⟩
          · cases h1
      · cases h1
  · have h1 : z_rn g n d' m' 0 (z_pad m' as) [] h = some r := h1
    obtain ⟨r1, r2⟩ := r
    cases r1 with
    | inr v =>
      obtain ⟨n2, r3, h3, h4⟩ := h2
      rw [← pl] at h3
      refine ⟨max n n2 + 1, r3, ?_, h4⟩
      unfold z_rn
      rw [hs]
      dsimp only
      rw [if_pos hlen, z_rn_le (Nat.le_max_left n n2) h1]
      exact z_rn_le (Nat.le_max_right n n2) h3
    | inl E =>
      have h2' : (match z_hd m pc E ls with | some (pc', ls') => z_T g (d' + 1) m pc' ls' [] r2 P | none => False) := h2
      split at h2'
      · next pc' ls' hx =>
        obtain ⟨n2, r3, h3, h4⟩ := h2'
        refine ⟨max n n2 + 1, r3, ?_, h4⟩
        unfold z_rn
        rw [hs]
        dsimp only
        rw [if_pos hlen, z_rn_le (Nat.le_max_left n n2) h1]
        dsimp only
        rw [if_neg (by rw [hj]; exact Bool.false_ne_true), if_neg hh, hx]
        exact z_rn_le (Nat.le_max_right n n2) h3
      · exact h2'.elim
/-- a call from a method of the JDK: no exception comes out of it -/
def z_kJ (r : z_Res) (K : Option Value → z_H → Prop) : Prop := match r.1 with
  | .inr v => K v r.2
  | .inl _ => False
theorem zt_callJ (hj : z_jdk m = true) (hs : z_sem g m pc ls st h = some (.inl (.inr (m', as, r9)))) : z_T g d m pc ls st h P = (0 < d ∧ z_Ca g (d - 1) m' as h (fun r => z_kJ r (fun v h' => z_T g d m (pc + 3) ls (z_push v r9) h' P))) := by
  have pl : ∀ v : Option Value, v.toList ++ r9 = z_push v r9 := fun v => by cases v <;> rfl
  cases d with
  | zero =>
    refine propext ⟨fun ⟨n, r, h1, h2⟩ => ?_, fun q => absurd q.1 (Nat.lt_irrefl 0)⟩
    cases n with
    | zero => cases h1
    | succ n => unfold z_rn at h1; rw [hs] at h1; cases h1
  | succ d' =>
  refine propext ⟨fun ⟨n, r, h1, h2⟩ => ?_, fun ⟨hd, hlen, n, r, h1, h2⟩ => ?_⟩
  · cases n with
    | zero => cases h1
    | succ n =>
      unfold z_rn at h1
      rw [hs] at h1
      dsimp only at h1
      split at h1
      · next hlen =>
        refine ⟨Nat.succ_pos _, hlen, ?_⟩
        show z_T g d' m' 0 (z_pad m' as) [] h _
        split at h1
        · cases h1
        · next v h' hc =>
          refine ⟨n, _, hc, ?_⟩
          show z_T g (d' + 1) m (pc + 3) ls (z_push v r9) h' P
          rw [← pl]
          exact ⟨n, r, h1, h2⟩
        · next E h' hc =>
          (try rw [if_pos hj] at h1)
          cases h1
      · cases h1
  · have h1 : z_rn g n d' m' 0 (z_pad m' as) [] h = some r := h1
    obtain ⟨r1, r2⟩ := r
    cases r1 with
    | inr v =>
      obtain ⟨n2, r3, h3, h4⟩ := h2
      rw [← pl] at h3
      refine ⟨max n n2 + 1, r3, ?_, h4⟩
      unfold z_rn
      rw [hs]
      dsimp only
      rw [if_pos hlen, z_rn_le (Nat.le_max_left n n2) h1]
      exact z_rn_le (Nat.le_max_right n n2) h3
    | inl E => exact h2.elim
theorem z_T_mono {P' : z_Res → Prop} (hP : ∀ r, P r → P' r) : z_T g d m pc ls st h P → z_T g d m pc ls st h P' := fun ⟨n, r, h1, h2⟩ => ⟨n, r, h1, hP r h2⟩
theorem z_Ca_mono {P' : z_Res → Prop} (hP : ∀ r, P r → P' r) : z_Ca g d m as h P → z_Ca g d m as h P' := fun ⟨h0, h1⟩ => ⟨h0, z_T_mono hP h1⟩
theorem z_Ca_eq (hl : decide (as.length ≤ z_maxL m) = true) {l0 : List Value} (h0 : z_pad m as = l0) : z_Ca g d m as h P = z_T g d m 0 l0 [] h P := by
  subst h0
  exact propext ⟨fun q => q.2, fun q => ⟨of_decide_eq_true hl, q⟩⟩
-- what an instruction does to heap and stack, in words that a simplifier takes apart
def z_gI (f : Nat → Option z_C) (a ci k : Nat) (K : Int32 → Prop) : Prop := match f a with
  | some (.inr (ci', fs)) => ci' = ci ∧ (match fs[k]? with
    | some (.int x) => K x
    | _ => False)
  | _ => False
/-- a reference field, null too -/
def z_gR (f : Nat → Option z_C) (a ci k : Nat) (K : Value → Prop) : Prop := match f a with
  | some (.inr (ci', fs)) => ci' = ci ∧ (match fs[k]? with
    | some (.ref x) => K (.ref x)
    | some .null => K .null
    | _ => False)
  | _ => False
def z_pF (f : Nat → Option z_C) (a ci k : Nat) (v : Value) (K : (Nat → Option z_C) → Prop) : Prop := match f a with
  | some (.inr (ci', fs)) => ci' = ci ∧ k < fs.length ∧ K (z_up f a (.inr (ci, fs.set k v)))
  | _ => False
def z_aL (f : Nat → Option z_C) (a : Nat) (t : FieldType → Bool) (j : Int32) (K : Int32 → Prop) : Prop := match f a with
  | some (.inl (ty, n, .inl c)) => t ty = true ∧ z_idx j n = true ∧ K (c j.toNatClampNeg)
  | _ => False
def z_aS (f : Nat → Option z_C) (a : Nat) (t : FieldType → Bool) (j x : Int32) (K : (Nat → Option z_C) → Prop) : Prop := match f a with
  | some (.inl (ty, n, .inl c)) => t ty = true ∧ z_idx j n = true ∧ K (z_up f a (.inl (ty, n, .inl (upd c j.toNatClampNeg (match ty with | .int => x | t => vp_nar t x)))))
  | _ => False
def z_tQ (t : FieldType) : Bool := match t with
  | .array .int => true
  | .array .boolean => true
  | .array (.array .boolean) => true
  | _ => false
def z_qL (f : Nat → Option z_C) (a : Nat) (j : Int32) (K : Nat → Prop) : Prop := match f a with
  | some (.inl (t, n, .inr (.inr (.inr (.inr c))))) => z_tQ t = true ∧ z_idx j n = true ∧ (match c j.toNatClampNeg with
    | some r => K r
    | none => False)
  | _ => False
def z_gO (f : Nat → Option z_C) (a ci : Nat) : Prop := match f a with
  | some (.inr (ci', _)) => ci' = ci
  | _ => False
def z_tI (t : FieldType) : Bool := match t with
  | .int => true
  | _ => false
def z_tB (t : FieldType) : Bool := match t with
  | .byte => true
  | .boolean => true
  | _ => false
-- the equations, an instruction a row
variable {k : Nat} {x y : Int32} {a b : Nat} {w : Value}
theorem z_semI (hi : z_ins m pc = some (i, n)) (hn : z_len i = 0 ∨ n = z_len i) : z_sem g m pc ls st h = z_op g m pc i ls st h := by
  unfold z_sem
  rw [hi]
  dsimp only
  rw [if_pos hn]
theorem zt_goN {i : Instr} (hi : z_ins m pc = some (i, n)) (hn : z_len i = 0 ∨ n = z_len i) (ho : z_op g m pc i ls st h = z_go pc' ls' st' h') : z_T g d m pc ls st h P = z_T g d m pc' ls' st' h' P := zt_next ((z_semI hi hn).trans ho)
theorem zt_noN {i : Instr} (hi : z_ins m pc = some (i, n)) (hn : z_len i = 0 ∨ n = z_len i) (ho : z_op g m pc i ls st h = none) : z_T g d m pc ls st h P = False := zt_none ((z_semI hi hn).trans ho)
theorem z_cmp_b (c : ClassFile.Cond) (x y : Int32) : (z_cmp c x y = true) = (match c with | .eq => x = y | .ne => ¬ x = y | .lt => x < y | .ge => ¬ x < y | .gt => y < x | .le => ¬ y < x) := by
  cases c <;> simp [z_cmp]
theorem z_tgt_of {pc t : Nat} {off : Int} (h : (pc : Int) + off = (t : Int)) : z_tgt pc off = some t := by
  unfold z_tgt
  rw [h, if_pos (Int.natCast_nonneg t)]
  simp
theorem zt_icmp {c : ClassFile.Cond} {off : Int} {t : Nat} (hi : z_ins m pc = some (.if_icmp c off, 3)) (ht : (pc : Int) + off = (t : Int)) : z_T g d m pc ls (.int y :: .int x :: st) h P = (if z_cmp c x y = true then z_T g d m t ls st h P else z_T g d m (pc + 3) ls st h P) := by
  have e : z_op g m pc (.if_icmp c off) ls (.int y :: .int x :: st) h = if z_cmp c x y then z_go t ls st h else z_go (pc + 3) ls st h := by
    simp only [z_op, z_tgt_of ht, Option.bind_some]
  by_cases q : z_cmp c x y = true
  · rw [if_pos q]
    rw [if_pos q] at e
    exact zt_goN hi (Or.inr rfl) e
  · rw [if_neg q]
    rw [if_neg q] at e
    exact zt_goN hi (Or.inr rfl) e
theorem zt_ifc {c : ClassFile.Cond} {off : Int} {t : Nat} (hi : z_ins m pc = some (.ifCond c off, 3)) (ht : (pc : Int) + off = (t : Int)) : z_T g d m pc ls (.int x :: st) h P = (if z_cmp c x (nI 0) = true then z_T g d m t ls st h P else z_T g d m (pc + 3) ls st h P) := by
  have e : z_op g m pc (.ifCond c off) ls (.int x :: st) h = if z_cmp c x (nI 0) then z_go t ls st h else z_go (pc + 3) ls st h := by
    simp only [z_op, z_tgt_of ht, Option.bind_some]
    rfl
  by_cases q : z_cmp c x (nI 0) = true
  · rw [if_pos q]
    rw [if_pos q] at e
    exact zt_goN hi (Or.inr rfl) e
  · rw [if_neg q]
    rw [if_neg q] at e
    exact zt_goN hi (Or.inr rfl) e
theorem z_ite_not {c : Prop} [Decidable c] {A B : Prop} : (if ¬ c then A else B) = (if c then B else A) := by
  by_cases q : c
  · rw [if_pos q, if_neg (fun z => z q)]
  · rw [if_neg q, if_pos q]
theorem z_ite_c {c c' : Prop} [Decidable c] [Decidable c'] {A B : Prop} (e : c = c') : (if c then A else B) = (if c' then A else B) := by
  subst e
  congr
-- branches: equal, or less
theorem zt_icmpeq {off : Int} {t : Nat} (hi : z_ins m pc = some (.if_icmp .eq off, 3)) (ht : (pc : Int) + off = (t : Int)) : z_T g d m pc ls (.int y :: .int x :: st) h P = (if x = y then z_T g d m t ls st h P else z_T g d m (pc + 3) ls st h P) := (zt_icmp hi ht).trans (z_ite_c (z_cmp_b _ _ _))
theorem zt_icmpne {off : Int} {t : Nat} (hi : z_ins m pc = some (.if_icmp .ne off, 3)) (ht : (pc : Int) + off = (t : Int)) : z_T g d m pc ls (.int y :: .int x :: st) h P = (if x = y then z_T g d m (pc + 3) ls st h P else z_T g d m t ls st h P) := (zt_icmp hi ht).trans ((z_ite_c (z_cmp_b _ _ _)).trans z_ite_not)
theorem zt_icmplt {off : Int} {t : Nat} (hi : z_ins m pc = some (.if_icmp .lt off, 3)) (ht : (pc : Int) + off = (t : Int)) : z_T g d m pc ls (.int y :: .int x :: st) h P = (if x < y then z_T g d m t ls st h P else z_T g d m (pc + 3) ls st h P) := (zt_icmp hi ht).trans (z_ite_c (z_cmp_b _ _ _))
theorem zt_icmpge {off : Int} {t : Nat} (hi : z_ins m pc = some (.if_icmp .ge off, 3)) (ht : (pc : Int) + off = (t : Int)) : z_T g d m pc ls (.int y :: .int x :: st) h P = (if x < y then z_T g d m (pc + 3) ls st h P else z_T g d m t ls st h P) := (zt_icmp hi ht).trans ((z_ite_c (z_cmp_b _ _ _)).trans z_ite_not)
theorem zt_icmpgt {off : Int} {t : Nat} (hi : z_ins m pc = some (.if_icmp .gt off, 3)) (ht : (pc : Int) + off = (t : Int)) : z_T g d m pc ls (.int y :: .int x :: st) h P = (if y < x then z_T g d m t ls st h P else z_T g d m (pc + 3) ls st h P) := (zt_icmp hi ht).trans (z_ite_c (z_cmp_b _ _ _))
theorem zt_icmple {off : Int} {t : Nat} (hi : z_ins m pc = some (.if_icmp .le off, 3)) (ht : (pc : Int) + off = (t : Int)) : z_T g d m pc ls (.int y :: .int x :: st) h P = (if y < x then z_T g d m (pc + 3) ls st h P else z_T g d m t ls st h P) := (zt_icmp hi ht).trans ((z_ite_c (z_cmp_b _ _ _)).trans z_ite_not)
theorem zt_ifeq {off : Int} {t : Nat} (hi : z_ins m pc = some (.ifCond .eq off, 3)) (ht : (pc : Int) + off = (t : Int)) : z_T g d m pc ls (.int x :: st) h P = (if x = nI 0 then z_T g d m t ls st h P else z_T g d m (pc + 3) ls st h P) := (zt_ifc hi ht).trans (z_ite_c (z_cmp_b _ _ _))
theorem zt_ifne {off : Int} {t : Nat} (hi : z_ins m pc = some (.ifCond .ne off, 3)) (ht : (pc : Int) + off = (t : Int)) : z_T g d m pc ls (.int x :: st) h P = (if x = nI 0 then z_T g d m (pc + 3) ls st h P else z_T g d m t ls st h P) := (zt_ifc hi ht).trans ((z_ite_c (z_cmp_b _ _ _)).trans z_ite_not)
theorem zt_iflt {off : Int} {t : Nat} (hi : z_ins m pc = some (.ifCond .lt off, 3)) (ht : (pc : Int) + off = (t : Int)) : z_T g d m pc ls (.int x :: st) h P = (if x < nI 0 then z_T g d m t ls st h P else z_T g d m (pc + 3) ls st h P) := (zt_ifc hi ht).trans (z_ite_c (z_cmp_b _ _ _))
theorem zt_ifge {off : Int} {t : Nat} (hi : z_ins m pc = some (.ifCond .ge off, 3)) (ht : (pc : Int) + off = (t : Int)) : z_T g d m pc ls (.int x :: st) h P = (if x < nI 0 then z_T g d m (pc + 3) ls st h P else z_T g d m t ls st h P) := (zt_ifc hi ht).trans ((z_ite_c (z_cmp_b _ _ _)).trans z_ite_not)
theorem zt_ifgt {off : Int} {t : Nat} (hi : z_ins m pc = some (.ifCond .gt off, 3)) (ht : (pc : Int) + off = (t : Int)) : z_T g d m pc ls (.int x :: st) h P = (if nI 0 < x then z_T g d m t ls st h P else z_T g d m (pc + 3) ls st h P) := (zt_ifc hi ht).trans (z_ite_c (z_cmp_b _ _ _))
theorem zt_ifle {off : Int} {t : Nat} (hi : z_ins m pc = some (.ifCond .le off, 3)) (ht : (pc : Int) + off = (t : Int)) : z_T g d m pc ls (.int x :: st) h P = (if nI 0 < x then z_T g d m (pc + 3) ls st h P else z_T g d m t ls st h P) := (zt_ifc hi ht).trans ((z_ite_c (z_cmp_b _ _ _)).trans z_ite_not)
-- fields
theorem zt_getI {ci : Nat} {fin : Bool} (hi : z_ins m pc = some (.getfield idx, 3)) (hf : z_fl (z_own m) idx = some (ci, k, false, fin)) : z_T g d m pc ls (.ref a :: st) h P = z_gI h.1 a ci k (fun x => z_T g d m (pc + 3) ls (.int x :: st) h P) := by
  unfold z_gI
  split
  · next ci' fs hh =>
    by_cases hc : ci' = ci
    · subst hc
      cases hk : fs[k]? with
      | none => simp only [true_and]; exact zt_noN hi (Or.inr rfl) (by simp only [z_op, hf, hh, hk, if_true])
      | some v =>
        cases v with
        | int x => simp only [true_and]; exact zt_goN hi (Or.inr rfl) (by simp only [z_op, hf, hh, hk, if_true] <;> rfl)
        | _ => simp only [true_and]; exact zt_noN hi (Or.inr rfl) (by simp only [z_op, hf, hh, hk, if_true] <;> rfl)
    · simp only [hc, false_and]
      exact zt_noN hi (Or.inr rfl) (by simp only [z_op, hf, hh, hc, if_false])
  · next hn =>
    refine zt_noN hi (Or.inr rfl) ?_
    simp only [z_op, hf]
    split
    · next e1 e2 => exact (hn _ _ e2).elim
    · rfl
theorem zt_getR {ci : Nat} {fin : Bool} (hi : z_ins m pc = some (.getfield idx, 3)) (hf : z_fl (z_own m) idx = some (ci, k, true, fin)) : z_T g d m pc ls (.ref a :: st) h P = z_gR h.1 a ci k (fun x => z_T g d m (pc + 3) ls (x :: st) h P) := by
  unfold z_gR
  split
  · next ci' fs hh =>
    by_cases hc : ci' = ci
    · subst hc
      cases hk : fs[k]? with
      | none => simp only [true_and]; exact zt_noN hi (Or.inr rfl) (by simp only [z_op, hf, hh, hk, if_true])
      | some v =>
        cases v with
        | ref x => simp only [true_and]; exact zt_goN hi (Or.inr rfl) (by simp only [z_op, hf, hh, hk, if_true] <;> rfl)
        | null => simp only [true_and]; exact zt_goN hi (Or.inr rfl) (by simp only [z_op, hf, hh, hk, if_true] <;> rfl)
        | _ => simp only [true_and]; exact zt_noN hi (Or.inr rfl) (by simp only [z_op, hf, hh, hk, if_true] <;> rfl)
    · simp only [hc, false_and]
      exact zt_noN hi (Or.inr rfl) (by simp only [z_op, hf, hh, hc, if_false])
  · next hn =>
    refine zt_noN hi (Or.inr rfl) ?_
    simp only [z_op, hf]
    split
    · next e1 e2 => exact (hn _ _ e2).elim
    · rfl
end ZWP
