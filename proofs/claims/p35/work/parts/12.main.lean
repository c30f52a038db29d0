/-! the abstract machine's run is the machine's -/
section ZMN
variable {p : Program} {l : Launch} {e : Env} {R : Room} {s : State} {m : MethodId} {args : Array Value} {below : List Frame} {meth : Method} {c : Code} {H : Heap} {locs : List Loc} {cells slots : Nat} {Q : State → Prop}
variable {D : va_G} {cA : FieldType → ClassId} {ra adV : Nat → Nat} {HB : Heap} {g : z_G} {mi pc pc' c0 s0 n : Nat} {lsR : Array Slot} {ls ls' st st' as r9 : List Value} {h h' : z_H} {i : Instr} {res : z_Res} {d m' idx : Nat}
theorem z_Wsz {st : List Value} (k : s.heap.size ≤ H.size → W p l e R s m args below meth c H locs cells slots Q (F0 m pc lsR st)) : W p l e R s m args below meth c H locs cells slots Q (F0 m pc lsR st) := fun T hT X => k (by rw [← hT]; exact (vx_frame X.same).1) T hT X
theorem z_wr_cnt {a : Nat} {j : Int32} {v : Value} (hw : z_wr h i a j v = some h') : h'.2 = h.2 := by
  unfold z_wr at hw
  repeat' split at hw
  all_goals first | (cases hw; rfl) | (cases hw; done)
theorem z_na_cnt {t : ArrayType} {k : Int32} {q : Nat × z_H} (hw : z_na h t k = some q) : h.2.2.1 ≤ q.2.2.2.1 ∧ h.2.2.2 ≤ q.2.2.2.2 := by
  unfold z_na at hw
  repeat' split at hw
  all_goals first | (cases hw; done) | (cases hw; exact ⟨by show h.2.2.1 ≤ h.2.2.1 + 1; omega, by show h.2.2.2 ≤ h.2.2.2 + _; omega⟩)
theorem z_ma2_cnt {t : FieldType} {k k2 : Int32} {q : Nat × z_H} (hw : z_ma2 t h k k2 = some q) : h.2.2.1 ≤ q.2.2.2.1 ∧ h.2.2.2 ≤ q.2.2.2.2 := by
  unfold z_ma2 at hw
  repeat' split at hw
  all_goals first | (cases hw; done) | (cases hw; exact ⟨by show h.2.2.1 ≤ h.2.2.1 + 1 + _; omega, by show h.2.2.2 ≤ h.2.2.2 + _ + _; omega⟩)
theorem z_ma3_cnt {k k2 k3 : Int32} {q : Nat × z_H} (hw : z_ma3 h k k2 k3 = some q) : h.2.2.1 ≤ q.2.2.2.1 ∧ h.2.2.2 ≤ q.2.2.2.2 := by
  unfold z_ma3 at hw
  repeat' split at hw
  all_goals first | (cases hw; done) | (cases hw; exact ⟨by show h.2.2.1 ≤ h.2.2.1 + 1 + _; omega, by show h.2.2.2 ≤ h.2.2.2 + _ + _; omega⟩)
theorem z_an_cnt {k : Int32} {q : Nat × z_H} (hw : z_an h k = some q) : h.2.2.1 ≤ q.2.2.2.1 ∧ h.2.2.2 ≤ q.2.2.2.2 := by
  unfold z_an at hw
  repeat' split at hw
  all_goals first | (cases hw; done) | (cases hw; exact ⟨by show h.2.2.1 ≤ h.2.2.1 + 1; omega, by show h.2.2.2 ≤ h.2.2.2 + _; omega⟩)
theorem z_cln_cnt {k a : Nat} {q : Nat × z_H} (hw : z_cln h k a = some q) : h.2.2.1 ≤ q.2.2.2.1 ∧ h.2.2.2 ≤ q.2.2.2.2 := by
  unfold z_cln at hw
  repeat' split at hw
  all_goals first | (cases hw; done) | (cases hw; exact ⟨by show h.2.2.1 ≤ h.2.2.1 + 1; omega, by show h.2.2.2 ≤ h.2.2.2 + _; omega⟩)
theorem z_cpy_cnt {src : Value} {sp dp nn : Int32} {d : Nat} (hw : z_cpy h src sp d dp nn = some h') : h'.2 = h.2 := by
  unfold z_cpy at hw
  repeat' split at hw
  all_goals first | (cases hw; rfl) | (cases hw; done)
set_option maxHeartbeats 4000000 in
theorem z_op_mono (hop : z_op g mi pc i ls st h = some (.inl (.inl (pc', ls', st', h')))) : (h.2.2.1 ≤ h'.2.2.1 ∧ h.2.2.2 ≤ h'.2.2.2) ∧ ls'.length = ls.length := by
  have call : ∀ {k : Nat} {own : String} {idx : Nat}, z_call k own idx ls st h = some (.inl (.inl (pc', ls', st', h'))) → (h.2.2.1 ≤ h'.2.2.1 ∧ h.2.2.2 ≤ h'.2.2.2) ∧ ls'.length = ls.length := fun hc => (z_call_next hc).elim
  cases i with
  | iastore | bastore | aastore =>
    simp only [z_op] at hop
    split at hop
    · obtain ⟨h9, hw, hop⟩ := Option.bind_eq_some_iff.mp hop
      simp only [z_go, Option.some.injEq, Sum.inl.injEq, Prod.mk.injEq] at hop
      obtain ⟨-, rfl, -, rfl⟩ := hop
      rw [z_wr_cnt hw]
      exact ⟨⟨Nat.le_refl _, Nat.le_refl _⟩, rfl⟩
    · cases hop
  | newarray t =>
    simp only [z_op] at hop
    split at hop
    · obtain ⟨h9, hw, hop⟩ := Option.bind_eq_some_iff.mp hop
      simp only [z_go, Option.some.injEq, Sum.inl.injEq, Prod.mk.injEq] at hop
      obtain ⟨-, rfl, -, rfl⟩ := hop
      exact ⟨z_na_cnt hw, rfl⟩
    · cases hop
  | multianewarray idx dims =>
    simp only [z_op] at hop
    split at hop
    · split at hop
      · split at hop
        · obtain ⟨h9, hw, hop⟩ := Option.bind_eq_some_iff.mp hop
          simp only [z_go, Option.some.injEq, Sum.inl.injEq, Prod.mk.injEq] at hop
          obtain ⟨-, rfl, -, rfl⟩ := hop
          exact ⟨z_ma2_cnt hw, rfl⟩
        · cases hop
      · split at hop
        · obtain ⟨h9, hw, hop⟩ := Option.bind_eq_some_iff.mp hop
          simp only [z_go, Option.some.injEq, Sum.inl.injEq, Prod.mk.injEq] at hop
          obtain ⟨-, rfl, -, rfl⟩ := hop
          exact ⟨z_ma2_cnt hw, rfl⟩
        · cases hop
      · split at hop
        · split at hop
          · obtain ⟨h9, hw, hop⟩ := Option.bind_eq_some_iff.mp hop
            simp only [z_go, Option.some.injEq, Sum.inl.injEq, Prod.mk.injEq] at hop
            obtain ⟨-, rfl, -, rfl⟩ := hop
            exact ⟨z_ma3_cnt hw, rfl⟩
          · cases hop
        · cases hop
      · cases hop
    · cases hop
  | anewarray idx =>
    simp only [z_op] at hop
    split at hop
    · split at hop
      · obtain ⟨h9, hw, hop⟩ := Option.bind_eq_some_iff.mp hop
        simp only [z_go, Option.some.injEq, Sum.inl.injEq, Prod.mk.injEq] at hop
        obtain ⟨-, rfl, -, rfl⟩ := hop
        exact ⟨z_an_cnt hw, rfl⟩
      · cases hop
    · cases hop
  | invokevirtual idx =>
    simp only [z_op] at hop
    split at hop
    · split at hop
      · split at hop
        · obtain ⟨h9, hw, hop⟩ := Option.bind_eq_some_iff.mp hop
          simp only [z_go, Option.some.injEq, Sum.inl.injEq, Prod.mk.injEq] at hop
          obtain ⟨-, rfl, -, rfl⟩ := hop
          exact ⟨z_cln_cnt hw, rfl⟩
        · cases hop
      · cases hop
    · split at hop
      · split at hop
        · obtain ⟨h9, hw, hop⟩ := Option.bind_eq_some_iff.mp hop
          simp only [z_go, Option.some.injEq, Sum.inl.injEq, Prod.mk.injEq] at hop
          obtain ⟨-, rfl, -, rfl⟩ := hop
          exact ⟨⟨Nat.le_refl _, Nat.le_refl _⟩, rfl⟩
        · cases hop
      · exact call hop
  | invokestatic idx =>
    simp only [z_op] at hop
    split at hop
    · split at hop
      · split at hop
        · obtain ⟨h9, hw, hop⟩ := Option.bind_eq_some_iff.mp hop
          simp only [z_go, Option.some.injEq, Sum.inl.injEq, Prod.mk.injEq] at hop
          obtain ⟨-, rfl, -, rfl⟩ := hop
          rw [z_cpy_cnt hw]
          exact ⟨⟨Nat.le_refl _, Nat.le_refl _⟩, rfl⟩
        · cases hop
      · cases hop
    · split at hop
      · split at hop
        · obtain ⟨h9, hw, hop⟩ := Option.bind_eq_some_iff.mp hop
          simp only [z_go, Option.some.injEq, Sum.inl.injEq, Prod.mk.injEq] at hop
          obtain ⟨-, rfl, -, rfl⟩ := hop
          exact ⟨⟨Nat.le_refl _, Nat.le_refl _⟩, rfl⟩
        · cases hop
      · exact call hop
  | new idx =>
    simp only [z_op] at hop
    split at hop
    · split at hop
      · simp only [z_go, Option.some.injEq, Sum.inl.injEq, Prod.mk.injEq] at hop
        obtain ⟨-, rfl, -, rfl⟩ := hop
        exact ⟨⟨by show h.2.2.1 ≤ h.2.2.1 + 1; omega, by show h.2.2.2 ≤ h.2.2.2 + _; omega⟩, rfl⟩
      · cases hop
    · obtain ⟨E, -, hop⟩ := Option.bind_eq_some_iff.mp hop
      split at hop
      · simp at hop
      · cases hop
  | _ =>
    simp only [z_op, z_bin, z_ret, z_reta, reduceCtorEq] at hop <;>
    repeat' first
      | (simp only [z_go, Option.some.injEq, Sum.inl.injEq, reduceCtorEq] at hop; done)
      | (simp only [z_go, Option.some.injEq, Sum.inl.injEq, Prod.mk.injEq] at hop; obtain ⟨-, rfl, -, rfl⟩ := hop; exact ⟨⟨Nat.le_refl _, Nat.le_refl _⟩, by first | rfl | exact List.length_set⟩)
      | exact call hop
      | split at hop
      | (obtain ⟨_, -, hop⟩ := Option.bind_eq_some_iff.mp hop)
set_option maxHeartbeats 8000000 in
theorem z_op_throw {E : String} (hop : z_op g mi pc i ls st h = some (.inr (.inr (E, h')))) : ∃ idx, i = .new idx ∧ z_th mi pc (z_own mi) idx = some E ∧ z_hds mi = [] ∧ st = [] ∧ h' = (h.1, h.2.1.map (· + 1), h.2.2.1 + 1, h.2.2.2 + 6) := by
  cases i with
  | new idx =>
    simp only [z_op] at hop
    split at hop
    · split at hop
      · simp [z_go] at hop
      · cases hop
    · obtain ⟨E, hth, hop⟩ := Option.bind_eq_some_iff.mp hop
      split at hop
      · next hh =>
        simp only [Option.some.injEq, Sum.inr.injEq, Prod.mk.injEq] at hop
        obtain ⟨rfl, rfl⟩ := hop
        exact ⟨idx, rfl, hth, hh.1, hh.2, rfl⟩
      · cases hop
  | _ =>
    exfalso
    simp only [z_op, z_bin, z_ret, z_reta, z_call, reduceCtorEq] at hop <;>
    repeat' first
      | (simp only [z_go, Option.some.injEq, Sum.inr.injEq, Sum.inl.injEq, reduceCtorEq] at hop; done)
      | split at hop
      | (obtain ⟨_, -, hop⟩ := Option.bind_eq_some_iff.mp hop)
/-- how a method ends: nothing, an int, a reference -/
def z_endI (mi : Nat) (i : Instr) (v : Option Value) (st : List Value) : Prop := (i = .return_ ∧ v = none ∧ st = [] ∧ z_rt mi = none) ∨ (∃ x t, i = .ireturn ∧ v = some (.int x) ∧ st = [.int x] ∧ z_rt mi = some t ∧ narrow t (.int x) = .int x) ∨
  ∃ w t, i = .areturn ∧ v = some w ∧ st = [w] ∧ (w = .null ∨ ∃ a, w = .ref a) ∧ z_rt mi = some t ∧ ((∃ n, t = .object n) ∨ ∃ n, t = .array n)
set_option maxHeartbeats 8000000 in
theorem z_op_ret {v : Option Value} (hop : z_op g mi pc i ls st h = some (.inr (.inl v))) : z_endI mi i v st := by
  cases i with
  | return_ =>
    simp only [z_op] at hop
    split at hop
    · next hh =>
      simp only [Option.some.injEq, Sum.inr.injEq, Sum.inl.injEq] at hop
      exact Or.inl ⟨rfl, hop.symm, hh.1, hh.2⟩
    · cases hop
  | ireturn =>
    simp only [z_op, z_ret] at hop
    split at hop
    · next x =>
      split at hop
      · next hr =>
        simp only [Option.some.injEq, Sum.inr.injEq, Sum.inl.injEq] at hop
        exact Or.inr (Or.inl ⟨x, _, rfl, hop.symm, rfl, hr, rfl⟩)
      · next hr =>
        split at hop
        · next hx =>
          simp only [Option.some.injEq, Sum.inr.injEq, Sum.inl.injEq] at hop
          exact Or.inr (Or.inl ⟨x, _, rfl, hop.symm, rfl, hr, by rcases hx with rfl | rfl <;> rfl⟩)
        · cases hop
      · next hr =>
        split at hop
        · next hx =>
          simp only [Option.some.injEq, Sum.inr.injEq, Sum.inl.injEq] at hop
          exact Or.inr (Or.inl ⟨x, _, rfl, hop.symm, rfl, hr, congrArg Value.int hx⟩)
        · cases hop
      · next hr =>
        split at hop
        · next hx =>
          simp only [Option.some.injEq, Sum.inr.injEq, Sum.inl.injEq] at hop
          exact Or.inr (Or.inl ⟨x, _, rfl, hop.symm, rfl, hr, congrArg Value.int hx⟩)
        · cases hop
      · cases hop
    · cases hop
  | areturn =>
    simp only [z_op, z_reta] at hop
    split at hop
    · next w =>
      split at hop
      · next t ht =>
        split at hop
        · next hh =>
          simp only [Option.some.injEq, Sum.inr.injEq, Sum.inl.injEq] at hop
          simp only [Bool.and_eq_true] at hh
          obtain ⟨h1, h2⟩ := hh
          refine Or.inr (Or.inr ⟨w, t, rfl, hop.symm, rfl, z_isA_spec h1, ht, ?_⟩)
          cases t <;> first | exact Or.inl ⟨_, rfl⟩ | exact Or.inr ⟨_, rfl⟩ | (simp [z_isRt] at h2; done)
        · cases hop
      · cases hop
    · cases hop
  | _ =>
    exfalso
    simp only [z_op, z_bin, z_call, reduceCtorEq] at hop <;>
    repeat' first
      | (simp only [z_go, Option.some.injEq, Sum.inr.injEq, Sum.inl.injEq, reduceCtorEq] at hop; done)
      | split at hop
      | (obtain ⟨_, -, hop⟩ := Option.bind_eq_some_iff.mp hop)
theorem z_sem_op {act : z_Act} (hs : z_sem g mi pc ls st h = some act) : ∃ i n, z_ins mi pc = some (i, n) ∧ (z_len i = 0 ∨ n = z_len i) ∧ z_op g mi pc i ls st h = some act := by
  unfold z_sem at hs
  split at hs
  · next i n hi =>
    split at hs
    · next hn => exact ⟨i, n, hi, hn, hs⟩
    · cases hs
  · cases hs
theorem z_hd_len {E : String} {t : Nat} (hh : z_hd mi pc E ls = some (t, ls')) : ls'.length = ls.length := by
  unfold z_hd at hh
  repeat' split at hh
  all_goals first | (cases hh; done) | (simp only [Option.some.injEq, Prod.mk.injEq] at hh; obtain ⟨-, rfl⟩ := hh; exact List.length_set)
theorem z_rn_mono (g : z_G) : ∀ (n d mi pc : Nat) (ls st : List Value) (h : z_H) (r : z_Res), z_rn g n d mi pc ls st h = some r → h.2.2.1 ≤ r.2.2.2.1 ∧ h.2.2.2 ≤ r.2.2.2.2 := by
  intro n
  induction n with
  | zero => intro d mi pc ls st h r hr; cases hr
  | succ n ih =>
    intro d mi pc ls st h r hr
    unfold z_rn at hr
    split at hr
    · cases hr
    · next pc' ls' st' h' hs =>
      obtain ⟨i, k, hi, hn, hop⟩ := z_sem_op hs
      have h1 := (z_op_mono hop).1
      have h2 := ih _ _ _ _ _ _ _ hr
      omega
    · next m' as r9 hs =>
      split at hr
      · cases hr
      · next d' =>
        split at hr
        · split at hr
          · cases hr
          · next v h' hc =>
            have h1 := ih _ _ _ _ _ _ _ hc
            have h2 := ih _ _ _ _ _ _ _ hr
            dsimp only at h1
            omega
          · next E h' hc =>
            have h1 := ih _ _ _ _ _ _ _ hc
            dsimp only at h1
            split at hr
            · cases hr
            · split at hr
              · cases hr
                exact h1
              · split at hr
                · have h2 := ih _ _ _ _ _ _ _ hr
                  omega
                · cases hr
        · cases hr
    · next v hs =>
      cases hr
      exact ⟨Nat.le_refl _, Nat.le_refl _⟩
    · next E h' hs =>
      cases hr
      obtain ⟨i, k, hi, hn, hop⟩ := z_sem_op hs
      obtain ⟨-, -, -, -, -, rfl⟩ := z_op_throw hop
      exact ⟨by show h.2.2.1 ≤ h.2.2.1 + 1; omega, by show h.2.2.2 ≤ h.2.2.2 + 6; omega⟩
set_option maxHeartbeats 4000000 in
theorem z_opS (hF : z_FR mi p l s m args meth c) (hE : z_EV D cA ra adV HB g s) (hdg : decode c.code pc = .ok (i, n)) (hn : z_len i = 0 ∨ n = z_len i) (hop : z_op g mi pc i ls st h = some (.inl (.inl (pc', ls', st', h'))))
    (hr : z_HR D cA HB h H) (hl : z_LR ra lsR ls) (hS : ∀ q ∈ locs, HB.size ≤ q.base) (hc : cells + c0 = h.2.2.1) (hs : slots + s0 = h.2.2.2) (hcR : h'.2.2.1 ≤ R.cells + c0) (hsR : h'.2.2.2 ≤ R.slots + s0) (hRf : 10 ≤ R.frames) (hRl : 600 ≤ R.locals) (hml : lsR.size = c.maxLocals) (hB0 : HB.size ≤ s.heap.size ∧ ∀ q, q < HB.size → s.heap[q]? = HB[q]?)
    (kk : z_KK p l e R s m args below meth c Q D cA ra HB c0 s0 pc' ls' st' h') : W p l e R s m args below meth c H locs cells slots Q (F0 m pc lsR (st.map (z_rv ra))) := by
  cases i with
  | aconst_null => exact z_S_aconst_null hF.1 hdg hn hop hr hl hS hc hs kk
  | ineg => exact z_S_ineg hF.1 hdg hn hop hr hl hS hc hs kk
  | i2c => exact z_S_i2c hF.1 hdg hn hop hr hl hS hc hs kk
  | dup_x1 => exact z_S_dup_x1 hF.1 hdg hn hop hr hl hS hc hs kk
  | ifnull off => exact z_S_ifnull hF.1 hdg hn hop hr hl hS hc hs kk
  | ifnonnull off => exact z_S_ifnonnull hF.1 hdg hn hop hr hl hS hc hs kk
  | aastore => exact z_S_aastore hF hE hdg hn hop hr hl hS hc hs kk
  | anewarray idx => exact z_S_anewarray hF hE hdg hn hop hr hl hS hc hs hcR hsR kk
  | checkcast idx => exact z_S_checkcast hF hE hdg hn hop hr hl hS hc hs kk
  | getstatic idx => exact z_Wsz fun hsz => z_S_getstatic hF hE hB0 hsz hdg hn hop hr hl hS hc hs kk
  | iconst k => exact z_S_iconst hF.1 hdg hn hop hr hl hS hc hs kk
  | bipush k => exact z_S_bipush hF.1 hdg hn hop hr hl hS hc hs kk
  | sipush k => exact z_S_sipush hF.1 hdg hn hop hr hl hS hc hs kk
  | iload_n k => exact z_S_iload_n hF.1 hdg hn hop hr hl hS hc hs kk
  | iload k => exact z_S_iload hF.1 hdg hn hop hr hl hS hc hs kk
  | aload_n k => exact z_S_aload_n hF.1 hdg hn hop hr hl hS hc hs kk
  | aload k => exact z_S_aload hF.1 hdg hn hop hr hl hS hc hs kk
  | istore_n k => exact z_S_istore_n hF.1 hdg hn hop hr hl hS hc hs kk
  | istore k => exact z_S_istore hF.1 hdg hn hop hr hl hS hc hs kk
  | astore_n k => exact z_S_astore_n hF.1 hdg hn hop hr hl hS hc hs kk
  | astore k => exact z_S_astore hF.1 hdg hn hop hr hl hS hc hs kk
  | iinc k d => exact z_S_iinc hF.1 hdg hn hop hr hl hS hc hs kk
  | iadd => exact z_S_iadd hF.1 hdg hn hop hr hl hS hc hs kk
  | isub => exact z_S_isub hF.1 hdg hn hop hr hl hS hc hs kk
  | imul => exact z_S_imul hF.1 hdg hn hop hr hl hS hc hs kk
  | iand => exact z_S_iand hF.1 hdg hn hop hr hl hS hc hs kk
  | ior => exact z_S_ior hF.1 hdg hn hop hr hl hS hc hs kk
  | ixor => exact z_S_ixor hF.1 hdg hn hop hr hl hS hc hs kk
  | ishl => exact z_S_ishl hF.1 hdg hn hop hr hl hS hc hs kk
  | ishr => exact z_S_ishr hF.1 hdg hn hop hr hl hS hc hs kk
  | iushr => exact z_S_iushr hF.1 hdg hn hop hr hl hS hc hs kk
  | idiv => exact z_S_idiv hF.1 hdg hn hop hr hl hS hc hs kk
  | irem => exact z_S_irem hF.1 hdg hn hop hr hl hS hc hs kk
  | i2b => exact z_S_i2b hF.1 hdg hn hop hr hl hS hc hs kk
  | dup => exact z_S_dup hF.1 hdg hn hop hr hl hS hc hs kk
  | pop => exact z_S_pop hF.1 hdg hn hop hr hl hS hc hs kk
  | dup2 => exact z_S_dup2 hF.1 hdg hn hop hr hl hS hc hs kk
  | ifCond cd off =>
    cases cd with
    | eq => exact z_S_if_eq hF.1 hdg hn hop hr hl hS hc hs kk
    | ne => exact z_S_if_ne hF.1 hdg hn hop hr hl hS hc hs kk
    | lt => exact z_S_if_lt hF.1 hdg hn hop hr hl hS hc hs kk
    | ge => exact z_S_if_ge hF.1 hdg hn hop hr hl hS hc hs kk
    | gt => exact z_S_if_gt hF.1 hdg hn hop hr hl hS hc hs kk
    | le => exact z_S_if_le hF.1 hdg hn hop hr hl hS hc hs kk
  | if_icmp cd off =>
    cases cd with
    | eq => exact z_S_icmp_eq hF.1 hdg hn hop hr hl hS hc hs kk
    | ne => exact z_S_icmp_ne hF.1 hdg hn hop hr hl hS hc hs kk
    | lt => exact z_S_icmp_lt hF.1 hdg hn hop hr hl hS hc hs kk
    | ge => exact z_S_icmp_ge hF.1 hdg hn hop hr hl hS hc hs kk
    | gt => exact z_S_icmp_gt hF.1 hdg hn hop hr hl hS hc hs kk
    | le => exact z_S_icmp_le hF.1 hdg hn hop hr hl hS hc hs kk
  | goto off => exact z_S_goto hF.1 hdg hn hop hr hl hS hc hs kk
  | tableswitch d lo hi offs => exact z_S_tableswitch hF.1 hdg hn hop hr hl hS hc hs kk
  | getfield idx => exact z_S_getfield hF hE hdg hn hop hr hl hS hc hs kk
  | putfield idx => exact z_S_putfield hF hE hdg hn hop hr hl hS hc hs kk
  | iaload => exact z_S_iaload hF hE hdg hn hop hr hl hS hc hs kk
  | baload => exact z_S_baload hF hE hdg hn hop hr hl hS hc hs kk
  | aaload => exact z_S_aaload hF hE hdg hn hop hr hl hS hc hs kk
  | iastore => exact z_S_iastore hF hE hdg hn hop hr hl hS hc hs kk
  | bastore => exact z_S_bastore hF hE hdg hn hop hr hl hS hc hs kk
  | arraylength => exact z_S_arraylength hF hE hdg hn hop hr hl hS hc hs kk
  | newarray t => exact z_S_newarray hF hE hdg hn hop hr hl hS hc hs hcR hsR hRf hRl kk
  | multianewarray idx dims => exact z_S_multianewarray hF hE hdg hn hop hr hl hS hc hs hcR hsR hRf hRl kk
  | ldc_w idx => exact z_S_ldc_w hF hE hdg hn hop hr hl hS hc hs kk
  | ldc idx => exact z_S_ldc hF hE hdg hn hop hr hl hS hc hs kk
  | new idx => exact z_S_new hF hE hdg hn hop hr hl hS hc hs hcR hsR hRf hRl kk
  | invokespecial idx => exact z_S_invokespecial hF hE hdg hn hop hr hl hS hc hs hcR hsR hRf hRl hml kk
  | invokevirtual idx => exact z_S_invokevirtual hF hE hdg hn hop hr hl hS hc hs hcR hsR hRf hRl hml kk
  | invokestatic idx => exact z_S_invokestatic hF hE hdg hn hop hr hl hS hc hs hcR hsR hRf hRl hml kk
  | _ =>
    exfalso
    simp only [z_op, z_bin, z_ret, z_reta, reduceCtorEq] at hop <;>
    repeat' first
      | (simp only [z_go, Option.some.injEq, Sum.inl.injEq, reduceCtorEq] at hop; done)
      | split at hop
end ZMN
