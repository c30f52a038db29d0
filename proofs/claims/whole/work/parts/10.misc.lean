/-! constants, new, Object's constructor, primitives -/
section ZMI
variable {p : Program} {l : Launch} {e : Env} {R : Room} {s : State} {m : MethodId} {args : Array Value} {below : List Frame} {meth : Method} {c : Code} {H : Heap} {locs : List Loc} {cells slots : Nat} {Q : State → Prop}
variable {D : va_G} {cA : FieldType → ClassId} {ra adV : Nat → Nat} {HB : Heap} {g : z_G} {mi pc pc' c0 s0 n : Nat} {lsR : Array Slot} {ls ls' st st' : List Value} {h h' : z_H} {i : Instr}
set_option maxHeartbeats 2000000 in
theorem z_S_ldc_w {idx : Nat} (hF : z_FR mi p l s m args meth c) (hE : z_EV D cA ra adV HB g s) (hdg : decode c.code pc = .ok (.ldc_w idx, n)) (hn : z_len (.ldc_w idx) = 0 ∨ n = z_len (.ldc_w idx)) (hop : z_op g mi pc (.ldc_w idx) ls st h = some (.inl (.inl (pc', ls', st', h'))))
    (hr : z_HR D cA HB h H) (hl : z_LR ra lsR ls) (hS : ∀ q ∈ locs, HB.size ≤ q.base) (hc : cells + c0 = h.2.2.1) (hs : slots + s0 = h.2.2.2)
    (kk : z_KK p l e R s m args below meth c Q D cA ra HB c0 s0 pc' ls' st' h') : W p l e R s m args below meth c H locs cells slots Q (F0 m pc lsR (st.map (z_rv ra))) := by
  have hn : n = 3 := by simpa [z_len] using hn
  subst hn
  have hown := z_own_spec hF
  obtain ⟨hx, -, hts, -⟩ := hF
  simp only [z_op] at hop
  split at hop
  · next x wi hlk =>
    simp only [z_go, Option.some.injEq, Sum.inl.injEq, Prod.mk.injEq] at hop
    obtain ⟨rfl, rfl, rfl, rfl⟩ := hop
    exact lv_ldcw hx rfl hown (hts _ (z_placesG z_ks0 z_ksg _ (List.mem_map_of_mem (f := fun q : (String × Nat) × (Int32 × Nat) => Cond.constant q.1.1 q.1.2 q.2.1) (z_lookup_mem hlk)))) hdg (kk _ _ _ _ _ hr hl hS hc hs)
  · cases hop
set_option maxHeartbeats 2000000 in
theorem z_S_ldc {idx : Nat} (hF : z_FR mi p l s m args meth c) (hE : z_EV D cA ra adV HB g s) (hdg : decode c.code pc = .ok (.ldc idx, n)) (hn : z_len (.ldc idx) = 0 ∨ n = z_len (.ldc idx)) (hop : z_op g mi pc (.ldc idx) ls st h = some (.inl (.inl (pc', ls', st', h'))))
    (hr : z_HR D cA HB h H) (hl : z_LR ra lsR ls) (hS : ∀ q ∈ locs, HB.size ≤ q.base) (hc : cells + c0 = h.2.2.1) (hs : slots + s0 = h.2.2.2)
    (kk : z_KK p l e R s m args below meth c Q D cA ra HB c0 s0 pc' ls' st' h') : W p l e R s m args below meth c H locs cells slots Q (F0 m pc lsR (st.map (z_rv ra))) := by
  have hn : n = 2 := by simpa [z_len] using hn
  subst hn
  have hown := z_own_spec hF
  obtain ⟨hx, -, hts, -⟩ := hF
  simp only [z_op] at hop
  split at hop
  · next k hlk =>
    simp only [z_go, Option.some.injEq, Sum.inl.injEq, Prod.mk.injEq] at hop
    obtain ⟨rfl, rfl, rfl, rfl⟩ := hop
    obtain ⟨tx, ht⟩ := hE.2.2.2.2.1 _ (z_lookup_mem hlk)
    exact va_ldcS hx rfl hown ht hdg (kk _ _ _ _ _ hr hl hS hc hs)
  · cases hop
set_option maxHeartbeats 2000000 in
theorem z_S_new {idx : Nat} (hF : z_FR mi p l s m args meth c) (hE : z_EV D cA ra adV HB g s) (hdg : decode c.code pc = .ok (.new idx, n)) (hn : z_len (.new idx) = 0 ∨ n = z_len (.new idx)) (hop : z_op g mi pc (.new idx) ls st h = some (.inl (.inl (pc', ls', st', h'))))
    (hr : z_HR D cA HB h H) (hl : z_LR ra lsR ls) (hS : ∀ q ∈ locs, HB.size ≤ q.base) (hc : cells + c0 = h.2.2.1) (hs : slots + s0 = h.2.2.2) (hcR : h'.2.2.1 ≤ R.cells + c0) (hsR : h'.2.2.2 ≤ R.slots + s0) (hRf : 10 ≤ R.frames) (hRl : 600 ≤ R.locals)
    (kk : z_KK p l e R s m args below meth c Q D cA ra HB c0 s0 pc' ls' st' h') : W p l e R s m args below meth c H locs cells slots Q (F0 m pc lsR (st.map (z_rv ra))) := by
  have hn : n = 3 := by simpa [z_len] using hn
  subst hn
  have hown := z_own_spec hF
  obtain ⟨hx, -, hts, -⟩ := hF
  simp only [z_op] at hop
  split at hop
  · next ci N fs hnw =>
    split at hop
    · next q hq =>
      simp only [z_go, Option.some.injEq, Sum.inl.injEq, Prod.mk.injEq] at hop
      obtain ⟨rfl, rfl, rfl, rfl⟩ := hop
      dsimp only at hcR hsR
      unfold z_nw at hnw
      split at hnw
      · next ci' ws' hlk =>
        split at hnw
        · next C T N' fs' h1 h2 =>
          simp only [Option.some.injEq, Prod.mk.injEq] at hnw
          obtain ⟨rfl, rfl, rfl⟩ := hnw
          have hws := z_placesG z_nw0 z_nwg
          have hmem : ∀ w ∈ z_nww ((z_own mi, idx), (ci', ws')), w ∈ z_tbl := fun w hw => hws w (List.mem_flatMap.mpr ⟨_, z_lookup_mem hlk, hw⟩)
          simp only [z_nww, h1] at hmem
          obtain ⟨ty, fs', j1, j2⟩ := z_dfs_some h1
          cases h2.symm.trans j2
          obtain ⟨g1, g2, g3⟩ := z_clsok h1 j1
          have hKn := hE.1.1 ci' _ h1
          have hsz := hr.2.1 q hq
          refine W.newcK hx rfl hown (hts _ (hmem _ List.mem_cons_self)) (hts _ (hmem _ (List.mem_cons_of_mem _ List.mem_cons_self))) (hts _ (hmem _ (List.mem_cons_of_mem _ (List.mem_cons_of_mem _ List.mem_cons_self)))) rfl hdg (by omega) (by omega) hKn.2.1 hsz fun H1 kC hkC e1 z1 o1 => ?_
          refine kk _ _ _ _ _ (hr.push hq z1 o1 ⟨_, h1, (u_born ty hts g3 hKn hkC e1 g1).to (fun j hj => (z_dfs_at h1 j1 j2 j hj).1)⟩) hl hS (by show cells + 1 + c0 = h.2.2.1 + 1; omega) (by show slots + N' + s0 = h.2.2.2 + N'; omega)
        · cases hnw
      · cases hnw
    · cases hop
  · obtain ⟨E, hE9, hop⟩ := Option.bind_eq_some_iff.mp hop
    split at hop
    · simp at hop
    · cases hop
theorem z_sum {ra : Nat → Nat} {r : List Value} (h : r.length ≤ 8) (h2 : ∀ v ∈ r, v.category = 1) : ((r.map (z_rv ra)).map fun v => v.category).sum ≤ 8 := by
  have e : ∀ r : List Value, (∀ v ∈ r, v.category = 1) → ((r.map (z_rv ra)).map fun v => v.category).sum = r.length := by
    intro r
    induction r with
    | nil => intro _; rfl
    | cons v r ih =>
      intro h3
      simp only [List.map_cons, List.sum_cons, List.length_cons]
      rw [ih (fun v hv => h3 v (List.mem_cons_of_mem _ hv)), z_rv_cat, h3 v List.mem_cons_self]
      omega
  rw [e r h2]
  exact h
theorem z_call_next {k : Nat} {own : String} {idx : Nat} {x : Nat × List Value × List Value × z_H} (hop : z_call k own idx ls st h = some (.inl (.inl x))) : False := by
  unfold z_call at hop
  repeat' split at hop
  all_goals first | (simp at hop; done) | (cases hop; done)
set_option maxHeartbeats 2000000 in
theorem z_S_invokespecial {idx : Nat} (hF : z_FR mi p l s m args meth c) (hE : z_EV D cA ra adV HB g s) (hdg : decode c.code pc = .ok (.invokespecial idx, n)) (hn : z_len (.invokespecial idx) = 0 ∨ n = z_len (.invokespecial idx)) (hop : z_op g mi pc (.invokespecial idx) ls st h = some (.inl (.inl (pc', ls', st', h'))))
    (hr : z_HR D cA HB h H) (hl : z_LR ra lsR ls) (hS : ∀ q ∈ locs, HB.size ≤ q.base) (hc : cells + c0 = h.2.2.1) (hs : slots + s0 = h.2.2.2) (hcR : h'.2.2.1 ≤ R.cells + c0) (hsR : h'.2.2.2 ≤ R.slots + s0) (hRf : 10 ≤ R.frames) (hRl : 600 ≤ R.locals) (hml : lsR.size = c.maxLocals)
    (kk : z_KK p l e R s m args below meth c Q D cA ra HB c0 s0 pc' ls' st' h') : W p l e R s m args below meth c H locs cells slots Q (F0 m pc lsR (st.map (z_rv ra))) := by
  have hn : n = 3 := by simpa [z_len] using hn
  subst hn
  have hown := z_own_spec hF
  obtain ⟨hx, ⟨q9, hq9, -, hml9, -⟩, hts, -⟩ := hF
  simp only [z_op] at hop
  split at hop
  · next a r =>
    split at hop
    · next hlk =>
      split at hop
      · next hr9 =>
        simp only [z_go, Option.some.injEq, Sum.inl.injEq, Prod.mk.injEq] at hop
        obtain ⟨rfl, rfl, rfl, rfl⟩ := hop
        obtain ⟨wi, hlk⟩ := Option.isSome_iff_exists.mp hlk
        have hw := z_placesG z_oi0 z_oig
        have hsum := z_sum (ra := ra) hr9.1 hr9.2
        refine W.objInit hx rfl hown (hts _ (hw _ (List.mem_cons_of_mem _ (List.mem_cons_of_mem _ (List.mem_map_of_mem (f := fun q : (String × Nat) × Nat => Cond.methodLink q.1.1 q.1.2 objectInit) (z_lookup_mem hlk)))))) (hts _ (hw _ List.mem_cons_self)) (hts _ (hw _ (List.mem_cons_of_mem _ List.mem_cons_self))) rfl hml rfl hdg (by omega) (by show 2 * 0 + _ + 12 ≤ _; omega) ?_
        exact kk _ _ _ _ _ hr hl hS hc hs
      · cases hop
    · exact (z_call_next hop).elim
  · exact (z_call_next hop).elim
theorem z_strB (hE : z_EV D cA ra adV HB g s) (hr : z_HR D cA HB h H) : zs_B ra adV (z_A HB) s H := by
  obtain ⟨-, -, -, -, -, -, -, -, -, -, h1, h2, h3⟩ := hE
  have hq : ∀ a : Nat, a < HB.size → ¬ z_A HB a → H[a]? = HB[a]? := fun a h _ => hr.2.2.2 a h
  exact ⟨h1.kept hq, h2.kept hq, h3.kept hq⟩
/-- a string's length -/
theorem z_P_len {idx k wi : Nat} (hF : z_FR mi p l s m args meth c) (hE : z_EV D cA ra adV HB g s) (hdg : decode c.code pc = .ok (.invokevirtual idx, 3)) (hlk : z_lookup z_prs (z_own mi, idx) = some (0, wi)) (hr : z_HR D cA HB h H) (hl : lsR.size = c.maxLocals) (hRf : 10 ≤ R.frames) (hRl : 600 ≤ R.locals) (hcc : cells ≤ R.cells) (hss : slots ≤ R.slots) {r : List Value} (hsum : (r.map fun v => v.category).sum ≤ 8) (hk : k < 3)
    (kk : W p l e R s m args below meth c H locs cells slots Q (F0 m (pc + 3) lsR (.int (nI (z_lit k).length) :: r))) : W p l e R s m args below meth c H locs cells slots Q (F0 m pc lsR (.ref (ra k) :: r)) := by
  have hown := z_own_spec hF
  obtain ⟨hx, -, hts, -⟩ := hF
  have hlw := z_placesG z_pr0 z_prg _ (List.mem_map_of_mem (f := z_prw) (z_lookup_mem hlk))
  have hB := z_strB hE hr
  exact zs_callV (As := []) (b := ra k) (rest := r) (n := 0) (k := 1) ⟨hx, rfl, hl.symm, hown, hts⟩ (zs_len (ra := ra) (adV := adV) (A := z_A HB) l hk) hlw (zs_at 3 rfl) (zs_at 4 rfl) (zs_at 0 rfl) (zs_at 5 rfl) ⟨by decide, by decide, by decide +kernel⟩ ⟨by omega, by omega⟩ zs_blind (zs_recv hB hk) (fun U hU hW => hB.at hU hW) rfl hsum hcc hss hdg kk
theorem z_P_char {idx k wi : Nat} {j : Int32} (hF : z_FR mi p l s m args meth c) (hE : z_EV D cA ra adV HB g s) (hdg : decode c.code pc = .ok (.invokevirtual idx, 3)) (hlk : z_lookup z_prs (z_own mi, idx) = some (1, wi)) (hr : z_HR D cA HB h H) (hl : lsR.size = c.maxLocals) (hRf : 10 ≤ R.frames) (hRl : 600 ≤ R.locals) (hcc : cells ≤ R.cells) (hss : slots ≤ R.slots) {r : List Value} (hsum : (r.map fun v => v.category).sum ≤ 8) (hk : k < 3) (hj : z_idx j (z_lit k).length = true)
    (kk : W p l e R s m args below meth c H locs cells slots Q (F0 m (pc + 3) lsR (.int ((z_lit k).getD j.toNatClampNeg 0) :: r))) : W p l e R s m args below meth c H locs cells slots Q (F0 m pc lsR (.int j :: .ref (ra k) :: r)) := by
  have hown := z_own_spec hF
  obtain ⟨hx, -, hts, -⟩ := hF
  have hlw := z_placesG z_pr0 z_prg _ (List.mem_map_of_mem (f := z_prw) (z_lookup_mem hlk))
  have hB := z_strB hE hr
  simp only [z_idx, Bool.and_eq_true, Bool.not_eq_true', decide_eq_false_iff_not, decide_eq_true_eq] at hj
  obtain ⟨j0, j1⟩ := hj
  obtain ⟨n, hn, rfl⟩ := nI_of j0
  rw [nI_clamp hn] at j1 kk
  exact zs_callV (As := [.int (nI n)]) (b := ra k) (rest := r) (n := 1) (k := 3) ⟨hx, rfl, hl.symm, hown, hts⟩ (zs_chr (ra := ra) (adV := adV) (A := z_A HB) l hk j1) hlw (zs_at 11 rfl) (zs_at 12 rfl) (zs_at 0 rfl) (zs_at 13 rfl) ⟨by decide, by decide, by decide +kernel⟩ ⟨by omega, by omega⟩ zs_blind (zs_recv hB hk) (fun U hU hW => hB.at hU hW) rfl hsum hcc hss hdg kk
set_option maxHeartbeats 2000000 in
theorem z_S_invokevirtual {idx : Nat} (hF : z_FR mi p l s m args meth c) (hE : z_EV D cA ra adV HB g s) (hdg : decode c.code pc = .ok (.invokevirtual idx, n)) (hn : z_len (.invokevirtual idx) = 0 ∨ n = z_len (.invokevirtual idx)) (hop : z_op g mi pc (.invokevirtual idx) ls st h = some (.inl (.inl (pc', ls', st', h'))))
    (hr : z_HR D cA HB h H) (hl : z_LR ra lsR ls) (hS : ∀ q ∈ locs, HB.size ≤ q.base) (hc : cells + c0 = h.2.2.1) (hs : slots + s0 = h.2.2.2) (hcR : h'.2.2.1 ≤ R.cells + c0) (hsR : h'.2.2.2 ≤ R.slots + s0) (hRf : 10 ≤ R.frames) (hRl : 600 ≤ R.locals) (hml : lsR.size = c.maxLocals)
    (kk : z_KK p l e R s m args below meth c Q D cA ra HB c0 s0 pc' ls' st' h') : W p l e R s m args below meth c H locs cells slots Q (F0 m pc lsR (st.map (z_rv ra))) := by
  have hn : n = 3 := by simpa [z_len] using hn
  subst hn
  simp only [z_op] at hop
  split at hop
  · next pp wi hlk =>
    split at hop
    · next h9 =>
      obtain ⟨st9, hp, hop⟩ := Option.bind_eq_some_iff.mp hop
      simp only [z_go, Option.some.injEq, Sum.inl.injEq, Prod.mk.injEq] at hop
      obtain ⟨rfl, rfl, rfl, rfl⟩ := hop
      unfold z_prim at hp
      split at hp
      · next k r =>
        split at hp
        · next hk =>
          cases hp
          have hsum := z_sum (ra := ra) (r := r) (by have := h9.2.1; simp at this; omega) (fun v hv => h9.2.2 v (List.mem_cons_of_mem _ hv))
          exact z_P_len hF hE hdg hlk hr hml hRf hRl (by omega) (by omega) hsum hk (kk _ _ _ _ _ hr hl hS hc hs)
        · cases hp
      · next j k r =>
        split at hp
        · next hk =>
          cases hp
          have hsum := z_sum (ra := ra) (r := r) (by have := h9.2.1; simp at this; omega) (fun v hv => h9.2.2 v (List.mem_cons_of_mem _ (List.mem_cons_of_mem _ hv)))
          exact z_P_char hF hE hdg hlk hr hml hRf hRl (by omega) (by omega) hsum hk.1 hk.2 (kk _ _ _ _ _ hr hl hS hc hs)
        · cases hp
      · exact absurd h9.1 (by decide)
      · exact absurd h9.1 (by decide)
      · cases hp
    · cases hop
  · exact (z_call_next hop).elim
set_option maxHeartbeats 2000000 in
theorem z_S_invokestatic {idx : Nat} (hF : z_FR mi p l s m args meth c) (hE : z_EV D cA ra adV HB g s) (hdg : decode c.code pc = .ok (.invokestatic idx, n)) (hn : z_len (.invokestatic idx) = 0 ∨ n = z_len (.invokestatic idx)) (hop : z_op g mi pc (.invokestatic idx) ls st h = some (.inl (.inl (pc', ls', st', h'))))
    (hr : z_HR D cA HB h H) (hl : z_LR ra lsR ls) (hS : ∀ q ∈ locs, HB.size ≤ q.base) (hc : cells + c0 = h.2.2.1) (hs : slots + s0 = h.2.2.2) (hcR : h'.2.2.1 ≤ R.cells + c0) (hsR : h'.2.2.2 ≤ R.slots + s0) (hRf : 10 ≤ R.frames) (hRl : 600 ≤ R.locals) (hml : lsR.size = c.maxLocals)
    (kk : z_KK p l e R s m args below meth c Q D cA ra HB c0 s0 pc' ls' st' h') : W p l e R s m args below meth c H locs cells slots Q (F0 m pc lsR (st.map (z_rv ra))) := by
  have hn : n = 3 := by simpa [z_len] using hn
  subst hn
  have hown := z_own_spec hF
  obtain ⟨hx, -, hts, -⟩ := hF
  simp only [z_op] at hop
  split at hop
  · next pp wi hlk =>
    split at hop
    · next h9 =>
      obtain ⟨st9, hp, hop⟩ := Option.bind_eq_some_iff.mp hop
      simp only [z_go, Option.some.injEq, Sum.inl.injEq, Prod.mk.injEq] at hop
      obtain ⟨rfl, rfl, rfl, rfl⟩ := hop
      have hmem := z_placesG z_mx0 z_mxg
      have hlw := z_placesG z_pr0 z_prg _ (List.mem_map_of_mem (f := z_prw) (z_lookup_mem hlk))
      unfold z_prim at hp
      split at hp
      · exact absurd h9.1 (by decide)
      · exact absurd h9.1 (by decide)
      · next y x r =>
        cases hp
        have hsum := z_sum (ra := ra) (r := r) (by have := h9.2.1; simp at this; omega) (fun v hv => h9.2.2 v (List.mem_cons_of_mem _ (List.mem_cons_of_mem _ hv)))
        exact va_mmax hx rfl hml.symm hown (hts _ hlw) (hts _ (hmem _ (List.mem_of_getElem? (i := 1) rfl))) (hts _ (hmem _ (List.mem_of_getElem? (i := 0) rfl))) (hts _ (hmem _ (List.mem_of_getElem? (i := 2) rfl))) (by omega) (by omega) (by omega) (by omega) hdg (kk _ _ _ _ _ hr hl hS hc hs)
      · next y x r =>
        cases hp
        have hsum := z_sum (ra := ra) (r := r) (by have := h9.2.1; simp at this; omega) (fun v hv => h9.2.2 v (List.mem_cons_of_mem _ (List.mem_cons_of_mem _ hv)))
        exact va_mmin hx rfl hml.symm hown (hts _ hlw) (hts _ (hmem _ (List.mem_of_getElem? (i := 3) rfl))) (hts _ (hmem _ (List.mem_of_getElem? (i := 0) rfl))) (hts _ (hmem _ (List.mem_of_getElem? (i := 4) rfl))) (by omega) (by omega) (by omega) (by omega) hdg (kk _ _ _ _ _ hr hl hS hc hs)
      · cases hp
    · cases hop
  · exact (z_call_next hop).elim
end ZMI
