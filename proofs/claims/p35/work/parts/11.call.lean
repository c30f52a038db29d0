/-! calls -/
def z_cmok (q : (String × Nat) × (Nat × Nat × Nat × Nat)) : Bool := match z_mm[q.2.1]? with
  | some m => (decide (q.2.2.1 = 1) || m.1.2.2.2.2.isEmpty) && decide (m.1.2.2.1 ≤ 60) && (decide (q.2.2.1 ≠ 2 ∧ q.2.2.1 ≠ 3) || decide (m.1.2.2.2.1 = none))
  | none => false
set_option maxRecDepth 100000 in
theorem z_cm_ok : z_cls.all z_cmok = true := by decide +kernel
theorem z_filterPlaces {α : Type} {l : List α} {f : α → Nat} {w : α → Cond} {P : α → Bool} (h0 : (l.map f).map (fun i => lw_tbl[i]?) = (l.map w).map some) (hg : ((l.filter P).map w).all goodWord = true) {x : α} (hx : x ∈ l) (hP : P x = true) : w x ∈ z_tbl :=
  List.mem_filter.mpr ⟨z_places h0 _ (List.mem_map_of_mem hx), List.all_eq_true.mp hg _ (List.mem_map_of_mem (List.mem_filter.mpr ⟨hx, hP⟩))⟩
/-- what the tables say of a call's link -/
theorem z_clk_spec {own : String} {idx m' kind n : Nat} (h : z_clk own idx = some (m', kind, n)) : ∃ q, z_me m' = some q ∧ (kind = 3 → Cond.methodLinkNest own idx q.1 own ∈ z_vw) ∧ (kind ≠ 3 → kind ≠ 4 → Cond.methodLink own idx q.1 ∈ z_tbl) ∧ Cond.initialized q.1.cls ∈ z_tbl ∧ (kind = 1 → Cond.static q.1 ∈ z_tbl) ∧ (kind ≠ 1 → Cond.instanceMethod q.1 ∈ z_tbl) ∧ (kind = 0 → Cond.selects q.1.cls q.1 q.1 ∈ z_tbl) ∧ (kind = 2 ∨ kind = 3 → q.1.name = "<init>") ∧
    z_code q ∈ z_tbl ∧ (parseMethodDescriptor q.1.desc).map (fun d => d.parameters.length) = some n ∧ (q.1.cls ≠ "java/lang/invoke/MethodHandle" ∧ q.1.cls ≠ "java/lang/invoke/VarHandle") ∧ plainName q.1.cls = true ∧ q.2.2.1 ≤ 60 ∧ (kind ≠ 1 → q.2.2.2.2 = []) ∧ (kind = 2 ∨ kind = 3 → q.2.2.2.1 = none) ∧ kind ≤ 5 ∧ (kind ≠ 2 → kind ≠ 3 → q.1.name ≠ "<init>") ∧
    (4 ≤ kind → z_jdkC own = true) ∧ (kind = 4 → ∃ x : z_Me, x.1 = ⟨"java/lang/AbstractStringBuilder", q.1.name, q.1.desc⟩ ∧ x.2.2.2.2 = [] ∧ ∀ w ∈ ([.methodLink own idx x.1, .sameMethod "java/lang/AbstractStringBuilder" "java/lang/AbstractStringBuilder" x.1.name x.1.desc, .instanceMethod x.1, .selects "java/lang/StringBuilder" x.1 q.1, z_code x] : List Cond), w ∈ z_tbl) ∧
    (kind = 5 → own = "java/lang/StringBuilder" ∧ ∀ w ∈ ([.methodLink own idx q.1, .sameMethod q.1.cls q.1.cls q.1.name q.1.desc, .superclass own q.1.cls] : List Cond), w ∈ z_tbl) := by
  unfold z_clk at h
  split at h
  · next m1 k1 n1 wi hlk =>
    simp only [Option.some.injEq, Prod.mk.injEq] at h
    obtain ⟨rfl, rfl, rfl⟩ := h
    have hm := z_lookup_mem hlk
    have c1 := List.all_eq_true.mp z_cls_ok _ hm
    have c2 := List.all_eq_true.mp z_cm_ok _ hm
    simp only [z_clok] at c1
    simp only [z_cmok] at c2
    cases hmm : z_mm[m1]? with
    | none => rw [hmm] at c1; cases c1
    | some q =>
      obtain ⟨q, w9, cn⟩ := q
      rw [hmm] at c1 c2
      have hmem : (q, w9, cn) ∈ z_mm := List.mem_of_getElem? hmm
      have h1 : z_meths.dropLast[m1]? = some q := by
        have := hmm
        simp only [z_mm, List.getElem?_zip_eq_some] at this
        exact this.1
      have h2 : z_me m1 = some q := by
        have hl := (List.getElem?_eq_some_iff.mp h1).1
        unfold z_me
        rw [← h1, List.getElem?_dropLast, if_pos]
        simpa using hl
      have hq : q ∈ z_meths.dropLast := List.mem_of_getElem? h1
      have hok : z_mnok (q, w9, cn) = true := by
        have : (q, w9, cn) ∈ z_mm.take 120 ++ z_mm.drop 120 := by rw [List.take_append_drop]; exact hmem
        rcases List.mem_append.mp this with z | z
        · exact List.all_eq_true.mp z_mn_ok1 _ z
        · exact List.all_eq_true.mp z_mn_ok2 _ z
      simp only [z_mnok, Bool.and_eq_true, decide_eq_true_eq, beq_iff_eq] at hok
      obtain ⟨⟨⟨⟨o1, o2⟩, o3⟩, o4⟩, o5⟩ := hok
      simp only [Bool.and_eq_true, decide_eq_true_eq] at c1
      simp only [Bool.and_eq_true, decide_eq_true_eq, Bool.or_eq_true, List.isEmpty_iff] at c2
      obtain ⟨⟨⟨⟨c1a, c1b⟩, c1c⟩, c1d⟩, c1e⟩ := c1
      obtain ⟨⟨c2a, c2b⟩, c2c⟩ := c2
      have hlw : z_clw ((own, idx), (m1, k1, n1, wi)) ∈ z_cls.map z_clw := List.mem_map_of_mem hm
      have hst := z_placesG z_w2 z_w2g _ (List.mem_map_of_mem (f := z_stw) hmem)
      have h3 : z_meths[m1]? = some q := h2
      refine ⟨q, h2, fun hk => ?_, fun hk hk4 => ?_, z_placesG z_w1 z_w1g _ (List.mem_map_of_mem (f := fun q : z_Me × (Bool × Nat × Nat × Nat × Nat) × (Nat × Bool) => Cond.initialized q.1.1.cls) hmem), fun hk => ?_, fun hk => ?_, fun hk => ?_, fun hk => ?_, z_placesG z_w0 z_w0g _ (List.mem_map_of_mem (f := z_code) hq), by rw [o1, c1a], ⟨o2, o3⟩, o4, c2b, fun hk => ?_, fun hk => c2c.resolve_left (by omega), c1e, fun hk2 hk3 => ?_, fun hk => ?_, fun hk => ?_, fun hk => ?_⟩
      · subst hk
        have := z_places z_cl0 _ hlw
        simp only [z_clw, h3] at this
        exact List.mem_filter.mpr ⟨this, rfl⟩
      · have := z_filterPlaces z_cl0 z_clg hm (by simpa using hk)
        have e : z_clw ((own, idx), (m1, k1, n1, wi)) = .methodLink own idx q.1 := by
          simp only [z_clw, h3]
        rw [e] at this
        exact this
      · rw [if_pos hk] at c1b
        simp only [z_stw, c1b] at hst
        exact hst
      · rw [if_neg hk] at c1b
        simp only [Bool.not_eq_true'] at c1b
        simp only [z_stw, c1b] at hst
        exact hst
      · subst hk
        simp only [ne_eq, not_true_eq_false, decide_false, Bool.false_or] at c1d
        exact z_placesG z_w3 z_w3g _ (List.mem_map_of_mem (f := fun q : z_Me × (Bool × Nat × Nat × Nat × Nat) × (Nat × Bool) => Cond.selects q.1.1.cls q.1.1 q.1.1) (List.mem_filter.mpr ⟨hmem, c1d⟩))
      · rw [if_pos hk] at c1c
        rw [c1c] at o5
        simpa using o5
      · exact c2a.resolve_left hk
      · rw [if_neg (by omega)] at c1c
        simp only [Bool.not_eq_true'] at c1c
        rw [c1c] at o5
        simpa using o5
      · exact List.all_eq_true.mp z_c45j _ (List.mem_filter.mpr ⟨hm, decide_eq_true hk⟩)
      · subst hk
        have k1 := List.all_eq_true.mp z_c4s_ok _ (List.mem_filter.mpr ⟨hm, rfl⟩)
        simp only [z_c4ok, h3] at k1
        cases hv : z_lookup z_c4s (own, idx) with
        | none => rw [hv] at k1; cases k1
        | some v =>
          rw [hv] at k1
          dsimp only at k1
          cases hx : z_meths[v.2.2.2.2.1]? with
          | none => rw [hx] at k1; cases k1
          | some x =>
            rw [hx] at k1
            simp only [Bool.and_eq_true, decide_eq_true_eq, List.isEmpty_iff] at k1
            obtain ⟨⟨⟨x1, x2⟩, x3⟩, x4⟩ := k1
            refine ⟨x, x1, x3, fun w hw => ?_⟩
            have hw2 : w ∈ z_c4s.flatMap z_c4w := List.mem_flatMap.mpr ⟨_, z_lookup_mem hv, by simp only [z_c4w, x2, h3, hx]; exact hw⟩
            exact z_placesG z_c40 z_c4g _ hw2
      · subst hk
        have k1 := List.all_eq_true.mp z_c5s_ok _ (List.mem_filter.mpr ⟨hm, rfl⟩)
        simp only [z_c5ok, h3] at k1
        cases hv : z_lookup z_c5s (own, idx) with
        | none => rw [hv] at k1; cases k1
        | some v =>
          rw [hv] at k1
          simp only [Bool.and_eq_true, decide_eq_true_eq, List.isEmpty_iff] at k1
          obtain ⟨⟨x2, x3⟩, x4⟩ := k1
          refine ⟨x4, fun w hw => ?_⟩
          have hw2 : w ∈ z_c5s.flatMap z_c5w := List.mem_flatMap.mpr ⟨_, z_lookup_mem hv, by simp only [z_c5w, x2, h3]; exact hw⟩
          exact z_placesG z_c50 z_c5g _ hw2
  · cases h
theorem z_call_spec {k : Nat} {own : String} {idx m' : Nat} {ls st as r9 : List Value} {h : z_H} (hop : z_call k own idx ls st h = some (.inl (.inr (m', as, r9)))) : ∃ kind n, z_clk own idx = some (m', kind, n) ∧ z_kd k kind = true ∧ st = as.reverse ++ r9 ∧ as.length = (if k = 1 then n else n + 1) ∧
    z_rcv h kind m' as.head? = true ∧ r9.length ≤ 8 ∧ ∀ v ∈ r9 ++ as, v.category = 1 := by
  unfold z_call at hop
  cases hc : z_clk own idx with
  | none => rw [hc] at hop; cases hop
  | some q =>
    obtain ⟨m1, kind, n⟩ := q
    rw [hc] at hop
    dsimp only at hop
    generalize hb : z_kd k kind = b at hop
    generalize hN : (if k = 1 then n else n + 1) = N at hop
    cases b with
    | false => simp at hop
    | true =>
      simp only [if_true] at hop
      cases ha : z_args N st with
      | none => rw [ha] at hop; cases hop
      | some x =>
        obtain ⟨as1, r1⟩ := x
        rw [ha] at hop
        dsimp only at hop
        generalize hB : (z_rcv h kind m1 as1.head? && decide (r1.length ≤ 8 ∧ ∀ v ∈ r1 ++ as1, v.category = 1)) = B at hop
        cases B with
        | false => simp at hop
        | true =>
          simp only [if_true, Option.some.injEq, Sum.inl.injEq, Sum.inr.injEq, Prod.mk.injEq] at hop
          obtain ⟨rfl, rfl, rfl⟩ := hop
          unfold z_args at ha
          split at ha
          · next hlen =>
            simp only [Option.some.injEq, Prod.mk.injEq] at ha
            obtain ⟨rfl, rfl⟩ := ha
            simp only [Bool.and_eq_true, decide_eq_true_eq] at hB
            obtain ⟨g1, g2, g3⟩ := hB
            exact ⟨kind, n, rfl, hb, by rw [List.reverse_reverse, List.take_append_drop], by rw [List.length_reverse, List.length_take, hN]; exact Nat.min_eq_left hlen, g1, g2, g3⟩
          · cases ha
def z_inv (i : Instr) : Bool := match i with
  | .invokevirtual _ => true
  | .invokestatic _ => true
  | .invokespecial _ => true
  | _ => false
set_option maxHeartbeats 8000000 in
theorem z_noCall {g : z_G} {mi pc : Nat} {i : Instr} {ls st : List Value} {h : z_H} {x : Nat × List Value × List Value} (hi : z_inv i = false) (hop : z_op g mi pc i ls st h = some (.inl (.inr x))) : False := by
  cases i <;> simp only [z_inv, reduceCtorEq] at hi <;> simp only [z_op, z_bin, z_ret, z_reta, reduceCtorEq] at hop <;>
  repeat' first
    | (simp only [z_go, Option.some.injEq, Sum.inl.injEq, reduceCtorEq] at hop; done)
    | split at hop
    | (obtain ⟨_, -, hop⟩ := Option.bind_eq_some_iff.mp hop)
section ZCL
variable {p : Program} {l : Launch} {e : Env} {R : Room} {s : State} {m : MethodId} {args : Array Value} {below : List Frame} {meth : Method} {c : Code} {H : Heap} {locs : List Loc} {cells slots : Nat} {Q : State → Prop}
variable {D : va_G} {cA : FieldType → ClassId} {ra adV : Nat → Nat} {HB : Heap} {g : z_G} {mi pc pc' c0 s0 n : Nat} {lsR : Array Slot} {ls ls' st st' as r9 : List Value} {h h' : z_H} {i : Instr} {res : z_Res} {d m' idx : Nat}
def z_ws (q : z_Me) : List Cond := z_code q :: z_tbl
def z_room (d mc ms : Nat) : Room := { frames := d + 10, cells := mc, slots := ms, locals := 100 * (d + 10) }
theorem z_roomfit {d a b L : Nat} {R : Room} (hRf : d + 11 ≤ R.frames) (hRl : 100 * (d + 11) ≤ R.locals) (hL : L ≤ 60) : (z_room d a b).frames + 1 ≤ R.frames ∧ 8 + (L + 11) + (z_room d a b).locals ≤ R.locals := by
  have e1 : (z_room d a b).frames = d + 10 := rfl
  have e2 : (z_room d a b).locals = 100 * (d + 10) := rfl
  rw [e1, e2]
  omega
def z_Pc (D : va_G) (cA : FieldType → ClassId) (ra adV : Nat → Nat) (HB : Heap) (g : z_G) (as : List Value) (h : z_H) : Array Value → State → Prop := va_Pc (as.map (z_rv ra)) (fun U => z_HR D cA HB h U.heap ∧ z_EV D cA ra adV HB g U)
def z_Qc (D : va_G) (cA : FieldType → ClassId) (ra : Nat → Nat) (HB : Heap) (r : z_Res) : Array Value → State → Outcome → State → Prop := fun _ _ o t => (∃ v, r.1 = .inr v ∧ o = .returned (v.map (z_rv ra))) ∧ z_HR D cA HB r.2 t.heap
def z_XC (D : va_G) (cA : FieldType → ClassId) (HB : Heap) (r : z_Res) : String → State → State → Prop := fun E _ t => r.1 = .inl E ∧ z_HR D cA HB r.2 t.heap
def z_Con (l : Launch) (D : va_G) (cA : FieldType → ClassId) (ra adV : Nat → Nat) (HB : Heap) (g : z_G) (d m' : Nat) (as : List Value) (h : z_H) (r : z_Res) : Prop :=
  ∀ q, z_me m' = some q → vx_Met l q.1 (z_ws q) (z_room d (r.2.2.2.1 - h.2.2.1) (r.2.2.2.2 - h.2.2.2)) (z_Pc D cA ra adV HB g as h) (z_Qc D cA ra HB r) (z_XC D cA HB r) (r.2.2.2.1 - h.2.2.1) (r.2.2.2.2 - h.2.2.2) (z_A HB)
theorem z_blind : FrameBlind (z_Pc D cA ra adV HB g as h) := fun a U gg mk q => ⟨q.1, q.2.1, z_EV.moved (U := U.calling gg mk a) (State.WarmedH.refl U) q.2.2⟩
theorem z_pre (hr : z_HR D cA HB h H) (hE : z_EV D cA ra adV HB g s) : ∀ U : State, U.heap = H → s.WarmedH U.vm → z_Pc D cA ra adV HB g as h (as.map (z_rv ra)).toArray U := fun U hU hW => ⟨rfl, by rw [hU]; exact hr, z_EV.moved hW hE⟩
theorem z_fromRun {mc ms : Nat} {stR : List Value} {aa : Array Value} (hrun : vx_Run p l e R s m args below meth c H locs cells slots mc ms (F0 m pc lsR stR) (r9.map (z_rv ra)) (z_Qc D cA ra HB res aa) (z_XC D cA HB res) (z_A HB)) (hS : ∀ q ∈ locs, HB.size ≤ q.base)
    (kN : ∀ v, res.1 = .inr v → ∀ (H' : Heap) (locs' : List Loc), z_HR D cA HB res.2 H' → (∀ q ∈ locs', HB.size ≤ q.base) → W p l e R s m args below meth c H' locs' (cells + mc) (slots + ms) Q (F0 m (pc + 3) lsR ((v.toList ++ r9).map (z_rv ra))))
    (kX : ∀ E, res.1 = .inl E → ∀ (H' : Heap) (locs' : List Loc) (q : Addr) (ce : Cell), z_HR D cA HB res.2 H' → (∀ q ∈ locs', HB.size ≤ q.base) → H'[q]? = some ce → ce.vm = .none → s.vm.findClass E = some ce.cls → vx_W p l e R s m args below meth c H' locs' (cells + mc) (slots + ms) Q (F0 m pc lsR (r9.map (z_rv ra))) q) :
    W p l e R s m args below meth c H locs cells slots Q (F0 m pc lsR stR) := by
  intro T hT X
  have hS' : ∀ L : List Loc, (∀ q ∈ L, z_A HB q.base) → ∀ q ∈ locs ++ L, HB.size ≤ q.base := fun L hL q hq => (List.mem_append.mp hq).elim (hS q) (hL q)
  rcases hrun T hT X with ⟨v, st₀, t, T', L, h0, X', hL, e1, e2, ⟨⟨v', hv1, hv2⟩, hH⟩, st⟩ | ⟨q, st₀, t, T', L, E, ce, h0, X', hL, e1, e2, ⟨hx1, hH⟩, hce, hcv, hcl, st⟩
  · have hv3 : v = v'.map (z_rv ra) := by cases hv2; rfl
    subst hv3
    obtain ⟨t2, a1, b1⟩ := kN v' hv1 T'.heap (locs ++ L) (by rw [e1]; exact hH) (hS' L hL) T' rfl X'
    refine ⟨t2, st t2 ?_, b1⟩
    have e9 : (v'.map (z_rv ra)).toList ++ r9.map (z_rv ra) = (v'.toList ++ r9).map (z_rv ra) := by cases v' <;> simp
    show Steps p.tables e below (T'.setTop { method := m, pc := pc + 3, locals := lsR, stack := (v'.map (z_rv ra)).toList ++ r9.map (z_rv ra), locked := none }) t2
    rw [e9]
    exact a1
  · obtain ⟨t2, a1, b1⟩ := kX E hx1 T'.heap (locs ++ L) q ce (by rw [e1]; exact hH) (hS' L hL) (by rw [e1]; exact hce) hcv hcl T' rfl X'
    exact ⟨t2, st.trans a1, b1⟩
theorem z_recv_spec (hr : z_HR D cA HB h H) (hE : z_EV D cA ra adV HB g s) {q : z_Me} (hq : z_me m' = some q) {v : Option Value} (h1 : z_recv h m' v = true) : ∃ a0 b, v = some a0 ∧ z_rv ra a0 = .ref b ∧ ∃ cellB : Cell, H[b]? = some cellB ∧ cellB.vm.isStatics = false ∧ s.vm.findClass q.1.cls = some cellB.cls := by
  unfold z_recv at h1
  split at h1
  · next k =>
    simp only [Bool.and_eq_true, decide_eq_true_eq, z_own, hq] at h1
    obtain ⟨cell, c1, c2, c3⟩ := zs_recv (z_strB hE hr) h1.1
    exact ⟨_, ra k, rfl, rfl, cell, c1, c2, by rw [h1.2]; exact c3⟩
  · next a =>
    split at h1
    · next ci fs hh =>
      split at h1
      · next C T9 hcl =>
        simp only [decide_eq_true_eq, z_own, hq] at h1
        subst h1
        exact ⟨_, a, rfl, rfl, va_recv (q0 := 0) hE.1 (hr.one hh) hcl rfl⟩
      · cases h1
    · cases h1
  · cases h1
theorem z_sb_spec (hr : z_HR D cA HB h H) (hE : z_EV D cA ra adV HB g s) {v : Option Value} (h1 : z_sb h v = true) : ∃ b, v = some (.ref b) ∧ ∃ cellB : Cell, H[b]? = some cellB ∧ cellB.vm.isStatics = false ∧ s.vm.findClass "java/lang/StringBuilder" = some cellB.cls := by
  unfold z_sb at h1
  split at h1
  · next a =>
    split at h1
    · next fs hh =>
      exact ⟨a, rfl, va_recv (q0 := 0) hE.1 (hr.one hh) (q := (RJ4, TJ4, 4)) rfl rfl⟩
    · cases h1
  · cases h1
theorem z_isR_spec {v : Option Value} (h1 : z_isR v = true) : ∃ b, v = some (.ref b) := by
  unfold z_isR at h1
  split at h1
  · exact ⟨_, rfl⟩
  · cases h1
theorem z_metOf {l : Launch} {y : MethodName} {ws : List Cond} {rm : Room} {Pc : Array Value → State → Prop} {Qc : Array Value → State → Outcome → State → Prop} {XC : String → State → State → Prop} {mc ms : Nat} {free : Addr → Prop} (hM : vx_Met l y ws rm Pc Qc XC mc ms free) (hno : ∀ E a t, ¬ XC E a t) : Met l y ws rm Pc Qc mc ms free := by
  refine Jvm.Free.MetFree.mono hM (fun _ _ h => h) (fun _ _ _ _ _ _ => trivial) (fun a s o t _ h => ?_)
  rcases h with h | ⟨q, -, E, ce, L, h1, -⟩
  · exact h
  · exact absurd h1 (hno _ _ _)
theorem z_runOf {mc ms : Nat} {gf : JFrame} {rest : List Value} {Qa : State → Outcome → State → Prop} {XC : String → State → State → Prop} {free : Addr → Prop} (hrun : va_Run p l e R s m args below meth c H locs cells slots mc ms gf rest Qa free) : vx_Run p l e R s m args below meth c H locs cells slots mc ms gf rest Qa XC free := fun T hT X => Or.inl (hrun T hT X)
set_option maxHeartbeats 1000000 in
theorem z_callS (hF : z_FR mi p l s m args meth c) (hE : z_EV D cA ra adV HB g s) (hdg : decode c.code pc = .ok (i, n)) (hn : z_len i = 0 ∨ n = z_len i) (hop : z_op g mi pc i ls st h = some (.inl (.inr (m', as, r9))))
    (hr : z_HR D cA HB h H) (hS : ∀ q ∈ locs, HB.size ≤ q.base) (hc : cells + c0 = h.2.2.1) (hs : slots + s0 = h.2.2.2) (hcR : res.2.2.2.1 ≤ R.cells + c0) (hsR : res.2.2.2.2 ≤ R.slots + s0) (hRf : d + 11 ≤ R.frames) (hRl : 100 * (d + 11) ≤ R.locals) (hml : lsR.size = c.maxLocals)
    (hm1 : h.2.2.1 ≤ res.2.2.2.1) (hm2 : h.2.2.2 ≤ res.2.2.2.2) (hjx : ∀ E, res.1 = .inl E → z_jdk mi = false) (hcon : z_Con l D cA ra adV HB g d m' as h res)
    (kN : ∀ v, res.1 = .inr v → ∀ (H' : Heap) (locs' : List Loc) (cells' slots' : Nat), z_HR D cA HB res.2 H' → (∀ q ∈ locs', HB.size ≤ q.base) → cells' + c0 = res.2.2.2.1 → slots' + s0 = res.2.2.2.2 → W p l e R s m args below meth c H' locs' cells' slots' Q (F0 m (pc + 3) lsR ((v.toList ++ r9).map (z_rv ra))))
    (kX : ∀ E, res.1 = .inl E → ∀ (H' : Heap) (locs' : List Loc) (cells' slots' : Nat) (q : Addr) (ce : Cell), z_HR D cA HB res.2 H' → (∀ q ∈ locs', HB.size ≤ q.base) → cells' + c0 = res.2.2.2.1 → slots' + s0 = res.2.2.2.2 → H'[q]? = some ce → ce.vm = .none → s.vm.findClass E = some ce.cls → vx_W p l e R s m args below meth c H' locs' cells' slots' Q (F0 m pc lsR (r9.map (z_rv ra))) q) :
    W p l e R s m args below meth c H locs cells slots Q (F0 m pc lsR (st.map (z_rv ra))) := by
  have hown := z_own_spec hF
  obtain ⟨hx, -, hts, -⟩ := hF
  have e1 : ∀ x : Nat, x + c0 = h.2.2.1 → x + (res.2.2.2.1 - h.2.2.1) + c0 = res.2.2.2.1 := fun x hx => by omega
  have e2 : ∀ x : Nat, x + s0 = h.2.2.2 → x + (res.2.2.2.2 - h.2.2.2) + s0 = res.2.2.2.2 := fun x hx => by omega
  have S : CallFix p m c c.code lsR.size s args z_tbl (z_own mi) := ⟨hx, rfl, hml.symm, hown, hts⟩
  have hf : cells + (res.2.2.2.1 - h.2.2.1) ≤ R.cells ∧ slots + (res.2.2.2.2 - h.2.2.2) ≤ R.slots := ⟨by omega, by omega⟩
  have fin : ∀ {stR : List Value} {aa : Array Value}, vx_Run p l e R s m args below meth c H locs cells slots (res.2.2.2.1 - h.2.2.1) (res.2.2.2.2 - h.2.2.2) (F0 m pc lsR stR) (r9.map (z_rv ra)) (z_Qc D cA ra HB res aa) (z_XC D cA HB res) (z_A HB) → W p l e R s m args below meth c H locs cells slots Q (F0 m pc lsR stR) := fun hrun =>
    z_fromRun hrun hS (fun v hv H' locs' hH hL => kN v hv H' locs' _ _ hH hL (e1 _ hc) (e2 _ hs)) (fun E hE9 H' locs' q ce hH hL a b cc => kX E hE9 H' locs' _ _ q ce hH hL (e1 _ hc) (e2 _ hs) a b cc)
  have key : ∀ {k idx : Nat}, z_call k (z_own mi) idx ls st h = some (.inl (.inr (m', as, r9))) → (k = 0 → decode c.code pc = .ok (.invokevirtual idx, 3)) → (k = 1 → decode c.code pc = .ok (.invokestatic idx, 3)) → (k = 2 → decode c.code pc = .ok (.invokespecial idx, 3)) → k ≤ 2 → W p l e R s m args below meth c H locs cells slots Q (F0 m pc lsR (st.map (z_rv ra))) := by
    intro k idx hcall d0 d1 d2 hk9
    obtain ⟨kind, n, hclk, hkind, rfl, hlen, hrecv, hr8, hcat⟩ := z_call_spec hcall
    obtain ⟨q, hq, w1, w2, w3, w4, w5, w6, w7, w8, w9, w10, w11, w12, w13, w14, w15, w16, w17, w18, w19⟩ := z_clk_spec hclk
    have hM := hcon q hq
    have hsum := z_sum (ra := ra) hr8 (fun v hv => hcat v (List.mem_append_left _ hv))
    have hstk : (as.reverse ++ r9).map (z_rv ra) = (as.map (z_rv ra)).reverse ++ r9.map (z_rv ra) := by rw [List.map_append, List.map_reverse]
    have hR : (z_room d (res.2.2.2.1 - h.2.2.1) (res.2.2.2.2 - h.2.2.2)).frames + 1 ≤ R.frames ∧ 8 + (q.2.2.1 + 11) + (z_room d (res.2.2.2.1 - h.2.2.1) (res.2.2.2.2 - h.2.2.2)).locals ≤ R.locals := z_roomfit hRf hRl w12
    have hGw : ∀ w ∈ z_ws q, w ∈ z_tbl := fun w hw => (List.mem_cons.mp hw).elim (fun e9 => by rw [e9]; exact w8) id
    have hblind : FrameBlind (z_Pc D cA ra adV HB g as h) := z_blind
    have hpre := z_pre (as := as) hr hE
    have hMet : 4 ≤ kind → Met l q.1 (z_ws q) (z_room d (res.2.2.2.1 - h.2.2.1) (res.2.2.2.2 - h.2.2.2)) (z_Pc D cA ra adV HB g as h) (z_Qc D cA ra HB res) (res.2.2.2.1 - h.2.2.1) (res.2.2.2.2 - h.2.2.2) (z_A HB) := fun hk => z_metOf hM fun E a t hX => by
      have h1 := hjx E hX.1
      rw [z_jdk, w17 hk] at h1
      cases h1
    rw [hstk]
    rcases (show kind = 0 ∨ kind = 1 ∨ kind = 2 ∨ kind = 3 ∨ kind = 4 ∨ kind = 5 by omega) with rfl | rfl | rfl | rfl | rfl | rfl
    · have k0 : k = 0 := by
        rcases (show k = 0 ∨ k = 1 ∨ k = 2 by omega) with rfl | rfl | rfl
        · rfl
        · cases hkind
        · cases hkind
      subst k0
      rw [if_neg (by decide)] at hlen
      have hcode : z_ws q = Cond.code q.1 q.2.1 q.2.2.1 q.2.2.2.1 :: z_tbl := by
        unfold z_ws z_code; rw [w13 (by decide)]
      obtain ⟨a9, b, hb1, hb3, hb2⟩ := z_recv_spec hr hE hq hrecv
      cases as with
      | nil => cases hb1
      | cons a0 as =>
        cases hb1
        rw [List.map_cons, hb3] at hpre
        have hcw : CallW R s args (z_own mi) q.1.cls idx q.1 q.2.1 q.2.2.1 q.2.2.2.1 (z_ws q) (z_room d (res.2.2.2.1 - h.2.2.1) (res.2.2.2.2 - h.2.2.2)) (res.2.2.2.1 - h.2.2.1) (res.2.2.2.2 - h.2.2.2) n :=
          cwV n hts (z_goodIn fun w hw => by
            simp only [wsV, List.mem_append, List.mem_cons, List.not_mem_nil, or_false] at hw
            rcases hw with (rfl | rfl | rfl | rfl) | hw
            · exact w2 (by decide) (by decide)
            · exact w5 (by decide)
            · exact w6 rfl
            · exact w3
            · exact hGw w hw) hcode rfl rfl ⟨rfl, w10.1, w10.2, w9⟩ hR
        exact fin (vx_runV (As := as.map (z_rv ra)) S hM hcw ⟨hblind, hb2, hpre⟩ rfl (by simpa using hlen) rfl (by simp [hb3]) (lv_room hsum) (d0 rfl) hf)
    · have k1 : k = 1 := by
        rcases (show k = 0 ∨ k = 1 ∨ k = 2 by omega) with rfl | rfl | rfl
        · cases hkind
        · rfl
        · cases hkind
      subst k1
      rw [if_pos rfl] at hlen
      cases hhh : q.2.2.2.2 with
      | nil =>
        have hcode : z_ws q = Cond.code q.1 q.2.1 q.2.2.1 q.2.2.2.1 :: z_tbl := by
          unfold z_ws z_code; rw [hhh]
        exact fin (vx_runS (As := as.map (z_rv ra)) S hM (va_cwS n hts (z_goodIn fun w hw => by
          simp only [va_wsS, List.mem_append, List.mem_cons, List.not_mem_nil, or_false] at hw
          rcases hw with (rfl | rfl | rfl) | hw
          · exact w2 (by decide) (by decide)
          · exact w4 rfl
          · exact w3
          · exact hGw w hw) hcode rfl rfl ⟨w10.1, w10.2, w9⟩ hR) ⟨hblind, hpre⟩ rfl (by simpa using hlen) rfl rfl (lv_room hsum) (d1 rfl) hf)
      | cons h9 hs9 =>
        have hcode : z_ws q = Cond.codeWith q.1 q.2.1 q.2.2.1 q.2.2.2.1 (h9 :: hs9) :: z_tbl := by
          unfold z_ws z_code; rw [hhh]
        exact fin (vx_runSX (As := as.map (z_rv ra)) S hM (vx_cwSW n hts (z_goodIn fun w hw => by
          simp only [va_wsS, List.mem_append, List.mem_cons, List.not_mem_nil, or_false] at hw
          rcases hw with (rfl | rfl | rfl) | hw
          · exact w2 (by decide) (by decide)
          · exact w4 rfl
          · exact w3
          · exact hGw w hw) hcode rfl rfl ⟨w10.1, w10.2, w9⟩ hR) ⟨hblind, hpre⟩ rfl (by simpa using hlen) rfl rfl (lv_room hsum) (d1 rfl) hf)
    · have k2 : k = 2 := by
        rcases (show k = 0 ∨ k = 1 ∨ k = 2 by omega) with rfl | rfl | rfl
        · cases hkind
        · cases hkind
        · rfl
      subst k2
      rw [if_neg (by decide)] at hlen
      have hcode : z_ws q = Cond.code q.1 q.2.1 q.2.2.1 none :: z_tbl := by
        unfold z_ws z_code; rw [w13 (by decide), w14 (by decide)]
      obtain ⟨b, hb1⟩ := z_isR_spec hrecv
      cases as with
      | nil => cases hb1
      | cons a0 as =>
        cases hb1
        exact fin (vx_runI (b := b) (As := as.map (z_rv ra)) S hM (cwI n hts (z_goodIn hGw) hcode rfl rfl (hts _ w3) (hts _ (w2 (by decide) (by decide))) (hts _ (w5 (by decide))) (w7 (by decide)) ⟨w10.1, w10.2, w9⟩ hR) ⟨hblind, hpre⟩ rfl (by simpa using hlen) rfl (by simp [z_rv]) (lv_room hsum) (d2 rfl) hf)
    · have k2 : k = 2 := by
        rcases (show k = 0 ∨ k = 1 ∨ k = 2 by omega) with rfl | rfl | rfl
        · cases hkind
        · cases hkind
        · rfl
      subst k2
      rw [if_neg (by decide)] at hlen
      have hcode : z_ws q = Cond.code q.1 q.2.1 q.2.2.1 none :: z_tbl := by
        unfold z_ws z_code; rw [w13 (by decide), w14 (by decide)]
      obtain ⟨b, hb1⟩ := z_isR_spec hrecv
      cases as with
      | nil => cases hb1
      | cons a0 as =>
        cases hb1
        exact fin (vx_runIN (b := b) (host := z_own mi) (ws := z_ws q) (As := as.map (z_rv ra)) S hM ⟨va_cnB n hts (z_goodIn hGw) hcode rfl rfl (hE.2.2.2.2.2.1 _ (w1 rfl)) (hts _ w3) ⟨w10.1, w10.2, w9⟩ hR, w7 (by decide), hts _ (w5 (by decide))⟩ ⟨hblind, hpre⟩ rfl (by simpa using hlen) rfl (by simp [z_rv]) (lv_room hsum) (d2 rfl) hf)
    · have k0 : k = 0 := by
        rcases (show k = 0 ∨ k = 1 ∨ k = 2 by omega) with rfl | rfl | rfl
        · rfl
        · cases hkind
        · cases hkind
      subst k0
      rw [if_neg (by decide)] at hlen
      have hcode : z_ws q = Cond.code q.1 q.2.1 q.2.2.1 q.2.2.2.1 :: z_tbl := by
        unfold z_ws z_code; rw [w13 (by decide)]
      obtain ⟨b, hb1, hb2⟩ := z_sb_spec hr hE hrecv
      obtain ⟨x, x1, x2, x3⟩ := w18 rfl
      cases as with
      | nil => cases hb1
      | cons a0 as =>
        cases hb1
        have hcx : Cond.code ⟨"java/lang/AbstractStringBuilder", x.1.name, x.1.desc⟩ x.2.1 x.2.2.1 x.2.2.2.1 ∈ z_tbl := by
          have h9 := x3 (z_code x) (by simp)
          unfold z_code at h9
          rw [x2] at h9
          have e9 : (⟨"java/lang/AbstractStringBuilder", x.1.name, x.1.desc⟩ : MethodName) = x.1 := by rw [x1]
          rw [e9]
          exact h9
        have hcw : va_CU R s args (z_own mi) "java/lang/StringBuilder" "java/lang/AbstractStringBuilder" idx x.1 q.1 q.2.1 q.2.2.1 q.2.2.2.1 (z_ws q) (z_room d (res.2.2.2.1 - h.2.2.1) (res.2.2.2.2 - h.2.2.2)) (res.2.2.2.1 - h.2.2.1) (res.2.2.2.2 - h.2.2.2) n :=
          va_cwO n hts (z_goodIn fun w hw => by
            simp only [va_wsO, List.mem_append, List.mem_cons, List.not_mem_nil, or_false] at hw
            rcases hw with (rfl | rfl | rfl | rfl | rfl | rfl) | hw
            · exact x3 _ (by simp)
            · refine x3 _ ?_
              have e9 : x.1.cls = "java/lang/AbstractStringBuilder" := by rw [x1]
              rw [e9]
              simp
            · refine x3 _ ?_
              have e9 : (⟨"java/lang/AbstractStringBuilder", x.1.name, x.1.desc⟩ : MethodName) = x.1 := by rw [x1]
              rw [e9]
              simp
            · exact x3 _ (by simp)
            · exact w5 (by decide)
            · exact w3
            · exact hGw w hw) hcode rfl rfl hcx ⟨by decide, by decide, by rw [x1]; exact w9⟩ hR
        exact fin (z_runOf (va_runU (As := as.map (z_rv ra)) S (hMet (by decide)) hcw ⟨hblind, hb2, hpre⟩ rfl (by simpa using hlen) rfl (by simp [z_rv]) (lv_room hsum) (d0 rfl) hf))
    · have k2 : k = 2 := by
        rcases (show k = 0 ∨ k = 1 ∨ k = 2 by omega) with rfl | rfl | rfl
        · cases hkind
        · cases hkind
        · rfl
      subst k2
      rw [if_neg (by decide)] at hlen
      have hcode : z_ws q = Cond.code q.1 q.2.1 q.2.2.1 q.2.2.2.1 :: z_tbl := by
        unfold z_ws z_code; rw [w13 (by decide)]
      obtain ⟨b, hb1, hb2⟩ := z_sb_spec hr hE hrecv
      obtain ⟨x1, x3⟩ := w19 rfl
      cases as with
      | nil => cases hb1
      | cons a0 as =>
        cases hb1
        have hcA := (hE.1.1 12 _ rfl).2
        have hcw : va_CS R s args (z_own mi) idx q.1 q.2.1 q.2.2.1 q.2.2.2.1 (z_ws q) (z_room d (res.2.2.2.1 - h.2.2.1) (res.2.2.2.2 - h.2.2.2)) (res.2.2.2.1 - h.2.2.1) (res.2.2.2.2 - h.2.2.2) n :=
          va_cwSU n hts (z_goodIn fun w hw => by
            simp only [va_wsSU, List.mem_append, List.mem_cons, List.not_mem_nil, or_false] at hw
            rcases hw with (rfl | rfl | rfl | rfl | rfl) | hw
            · exact x3 _ (by simp)
            · exact x3 _ (by simp)
            · exact x3 _ (by simp)
            · exact w5 (by decide)
            · exact w3
            · exact hGw w hw) hcode rfl rfl ⟨w16 (by decide) (by decide), w9⟩ hR
        exact fin (z_runOf (va_runSU (C := "java/lang/StringBuilder") (As := as.map (z_rv ra)) hcA S (hMet (by decide)) hcw ⟨hblind, hb2, hpre⟩ rfl (by simpa using hlen) rfl (by simp [z_rv]) (lv_room hsum) (d2 rfl) hf))
  cases i with
  | invokevirtual idx =>
    have hn : n = 3 := by simpa [z_len] using hn
    subst hn
    simp only [z_op] at hop
    split at hop
    · split at hop
      · split at hop
        · obtain ⟨x, -, hop⟩ := Option.bind_eq_some_iff.mp hop
          simp [z_go] at hop
        · cases hop
      · cases hop
    · split at hop
      · split at hop
        · obtain ⟨x, -, hop⟩ := Option.bind_eq_some_iff.mp hop
          simp [z_go] at hop
        · cases hop
      · exact key (k := 0) hop (fun _ => hdg) (fun z => by cases z) (fun z => by cases z) (by decide)
  | invokestatic idx =>
    have hn : n = 3 := by simpa [z_len] using hn
    subst hn
    simp only [z_op] at hop
    split at hop
    · split at hop
      · split at hop
        · obtain ⟨x, -, hop⟩ := Option.bind_eq_some_iff.mp hop
          simp [z_go] at hop
        · cases hop
      · cases hop
    · split at hop
      · split at hop
        · obtain ⟨x, -, hop⟩ := Option.bind_eq_some_iff.mp hop
          simp [z_go] at hop
        · cases hop
      · exact key (k := 1) hop (fun z => by cases z) (fun _ => hdg) (fun z => by cases z) (by decide)
  | invokespecial idx =>
    have hn : n = 3 := by simpa [z_len] using hn
    subst hn
    have hk : z_call 2 (z_own mi) idx ls st h = some (.inl (.inr (m', as, r9))) := by
      simp only [z_op] at hop
      split at hop
      · split at hop
        · split at hop
          · simp [z_go] at hop
          · cases hop
        · exact hop
      · exact hop
    exact key (k := 2) hk (fun z => by cases z) (fun z => by cases z) (fun _ => hdg) (by decide)
  | _ => exact (z_noCall rfl hop).elim
end ZCL
