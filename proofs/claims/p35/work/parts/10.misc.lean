/-! constants, new, Object's constructor, primitives -/
theorem z_cn_ok : z_cns.all (fun q => decide (q.2.1 < 2)) = true := by decide +kernel
theorem z_litfit : ∀ q, q < 6 → ∀ j, j < (z_lit q).length → fits .byte (.int ((z_lit q).getD j 0)) = true := by decide +kernel
theorem z_gs_ok : z_gss.all (fun q => decide (q.2.1 < 2)) = true := by decide +kernel
section ZMI
variable {p : Program} {l : Launch} {e : Env} {R : Room} {s : State} {m : MethodId} {args : Array Value} {below : List Frame} {meth : Method} {c : Code} {H : Heap} {locs : List Loc} {cells slots : Nat} {Q : State → Prop}
variable {D : va_G} {cA : FieldType → ClassId} {ra adV : Nat → Nat} {HB : Heap} {g : z_G} {mi pc pc' c0 s0 n : Nat} {lsR : Array Slot} {ls ls' st st' : List Value} {h h' : z_H} {i : Instr}
set_option maxHeartbeats 2000000 in
theorem z_S_ldc_w {idx : Nat} (hF : z_FR mi p l s m args meth c) (hE : z_EV D cA ra adV HB g s) (hdg : decode c.code pc = .ok (.ldc_w idx, n)) (hn : z_len (.ldc_w idx) = 0 ∨ n = z_len (.ldc_w idx)) (hop : z_op g mi pc (.ldc_w idx) ls st h = some (.inl (.inl (pc', ls', st', h'))))
    (hr : z_HR D cA HB h H) (hl : z_LR ra lsR ls) (hS : ∀ q ∈ locs, HB.size ≤ q.base) (hc : cells + c0 = h.2.2.1) (hs : slots + s0 = h.2.2.2)
    (kk : z_KK p l e R s m args below meth c Q D cA ra HB c0 s0 pc' ls' st' h') : W p l e R s m args below meth c H locs cells slots Q (F0 m pc lsR (st.map (z_rv ra))) := by
  have hn : n = 3 := by simpa [z_len] using hn
  subst hn
  have hown := z_own_spec hF
  obtain ⟨hx, -, hts, -⟩ := hF
  simp only [z_op] at hop
  split at hop
  · next x wi hlk =>
    simp only [z_go, Option.some.injEq, Sum.inl.injEq, Prod.mk.injEq] at hop
    obtain ⟨rfl, rfl, rfl, rfl⟩ := hop
    exact lv_ldcw hx rfl hown (hts _ (z_placesG z_ks0 z_ksg _ (List.mem_map_of_mem (f := fun q : (String × Nat) × (Int32 × Nat) => Cond.constant q.1.1 q.1.2 q.2.1) (z_lookup_mem hlk)))) hdg (kk _ _ _ _ _ hr hl hS hc hs)
  · cases hop
set_option maxHeartbeats 2000000 in
theorem z_S_ldc {idx : Nat} (hF : z_FR mi p l s m args meth c) (hE : z_EV D cA ra adV HB g s) (hdg : decode c.code pc = .ok (.ldc idx, n)) (hn : z_len (.ldc idx) = 0 ∨ n = z_len (.ldc idx)) (hop : z_op g mi pc (.ldc idx) ls st h = some (.inl (.inl (pc', ls', st', h'))))
    (hr : z_HR D cA HB h H) (hl : z_LR ra lsR ls) (hS : ∀ q ∈ locs, HB.size ≤ q.base) (hc : cells + c0 = h.2.2.1) (hs : slots + s0 = h.2.2.2)
    (kk : z_KK p l e R s m args below meth c Q D cA ra HB c0 s0 pc' ls' st' h') : W p l e R s m args below meth c H locs cells slots Q (F0 m pc lsR (st.map (z_rv ra))) := by
  have hn : n = 2 := by simpa [z_len] using hn
  subst hn
  have hown := z_own_spec hF
  obtain ⟨hx, -, hts, -⟩ := hF
  simp only [z_op] at hop
  split at hop
  · next k hlk =>
    simp only [z_go, Option.some.injEq, Sum.inl.injEq, Prod.mk.injEq] at hop
    obtain ⟨rfl, rfl, rfl, rfl⟩ := hop
    obtain ⟨tx, ht⟩ := hE.2.2.2.2.1 _ (z_lookup_mem hlk)
    exact va_ldcS hx rfl hown ht hdg (kk _ _ _ _ _ hr hl hS hc hs)
  · split at hop
    · next x wi hlk =>
      simp only [z_go, Option.some.injEq, Sum.inl.injEq, Prod.mk.injEq] at hop
      obtain ⟨rfl, rfl, rfl, rfl⟩ := hop
      exact lv_ldc hx rfl hown (hts _ (z_placesG z_ks0 z_ksg _ (List.mem_map_of_mem (f := fun q : (String × Nat) × (Int32 × Nat) => Cond.constant q.1.1 q.1.2 q.2.1) (z_lookup_mem hlk)))) hdg (kk _ _ _ _ _ hr hl hS hc hs)
    · cases hop
set_option maxHeartbeats 2000000 in
theorem z_S_getstatic {idx : Nat} (hF : z_FR mi p l s m args meth c) (hE : z_EV D cA ra adV HB g s) (hB0 : HB.size ≤ s.heap.size ∧ ∀ q, q < HB.size → s.heap[q]? = HB[q]?) (hszH : s.heap.size ≤ H.size) (hdg : decode c.code pc = .ok (.getstatic idx, n)) (hn : z_len (.getstatic idx) = 0 ∨ n = z_len (.getstatic idx)) (hop : z_op g mi pc (.getstatic idx) ls st h = some (.inl (.inl (pc', ls', st', h'))))
    (hr : z_HR D cA HB h H) (hl : z_LR ra lsR ls) (hS : ∀ q ∈ locs, HB.size ≤ q.base) (hc : cells + c0 = h.2.2.1) (hs : slots + s0 = h.2.2.2)
    (kk : z_KK p l e R s m args below meth c Q D cA ra HB c0 s0 pc' ls' st' h') : W p l e R s m args below meth c H locs cells slots Q (F0 m pc lsR (st.map (z_rv ra))) := by
  have hn : n = 3 := by simpa [z_len] using hn
  subst hn
  have hown := z_own_spec hF
  obtain ⟨hx, -, hts, -⟩ := hF
  have hkept : ∀ a : Nat, a < HB.size → ¬ z_A HB a → s.heap[a]? = HB[a]? := fun a ha _ => hB0.2 a ha
  have hSva : va_S (z_A HB) s.heap H locs := ⟨hszH, fun y h1 h2 => by
    have h3 : y < HB.size := Nat.not_le.mp h2
    rw [hr.2.2.2 y h3, hB0.2 y h3], hS⟩
  simp only [z_op] at hop
  split at hop
  · next k wi hlk =>
    simp only [z_go, Option.some.injEq, Sum.inl.injEq, Prod.mk.injEq] at hop
    obtain ⟨rfl, rfl, rfl, rfl⟩ := hop
    have hlink := hts _ (z_placesG z_gs0 z_gsg _ (List.mem_map_of_mem (f := z_gsw) (z_lookup_mem hlk)))
    have hk9 := List.all_eq_true.mp z_gs_ok _ (z_lookup_mem hlk)
    simp only [decide_eq_true_eq] at hk9
    by_cases hk : k = 0
    · subst hk
      exact va_gets hx rfl (hE.2.2.2.2.2.2.2.2.2.2.2.1.kept hkept) hSva hown hlink (fun _ h => h) hdg (kk _ _ _ _ _ hr hl hS hc hs)
    · rw [if_neg hk] at kk
      have hk1 : k = 1 := by omega
      subst hk1
      exact va_gets (v := .ref (ra 97)) hx rfl (hE.2.2.2.2.2.2.2.2.1.1.kept hkept) hSva hown hlink (fun _ h => h) hdg (kk _ _ _ _ _ hr hl hS hc hs)
  · cases hop
set_option maxHeartbeats 2000000 in
theorem z_S_new {idx : Nat} (hF : z_FR mi p l s m args meth c) (hE : z_EV D cA ra adV HB g s) (hdg : decode c.code pc = .ok (.new idx, n)) (hn : z_len (.new idx) = 0 ∨ n = z_len (.new idx)) (hop : z_op g mi pc (.new idx) ls st h = some (.inl (.inl (pc', ls', st', h'))))
    (hr : z_HR D cA HB h H) (hl : z_LR ra lsR ls) (hS : ∀ q ∈ locs, HB.size ≤ q.base) (hc : cells + c0 = h.2.2.1) (hs : slots + s0 = h.2.2.2) (hcR : h'.2.2.1 ≤ R.cells + c0) (hsR : h'.2.2.2 ≤ R.slots + s0) (hRf : 10 ≤ R.frames) (hRl : 600 ≤ R.locals)
    (kk : z_KK p l e R s m args below meth c Q D cA ra HB c0 s0 pc' ls' st' h') : W p l e R s m args below meth c H locs cells slots Q (F0 m pc lsR (st.map (z_rv ra))) := by
  have hn : n = 3 := by simpa [z_len] using hn
  subst hn
  have hown := z_own_spec hF
  obtain ⟨hx, -, hts, -⟩ := hF
  simp only [z_op] at hop
  split at hop
  · next ci N fs hnw =>
    split at hop
    · next q hq =>
      simp only [z_go, Option.some.injEq, Sum.inl.injEq, Prod.mk.injEq] at hop
      obtain ⟨rfl, rfl, rfl, rfl⟩ := hop
      dsimp only at hcR hsR
      unfold z_nw at hnw
      split at hnw
      · next ci' ws' hlk =>
        split at hnw
        · next C T N' fs' h1 h2 =>
          simp only [Option.some.injEq, Prod.mk.injEq] at hnw
          obtain ⟨rfl, rfl, rfl⟩ := hnw
          have hws := z_placesG z_nw0 z_nwg
          have hmem : ∀ w ∈ z_nww ((z_own mi, idx), (ci', ws')), w ∈ z_tbl := fun w hw => hws w (List.mem_flatMap.mpr ⟨_, z_lookup_mem hlk, hw⟩)
          simp only [z_nww, h1] at hmem
          obtain ⟨ty, fs', j1, j2⟩ := z_dfs_some h1
          cases h2.symm.trans j2
          obtain ⟨g1, g2, g3⟩ := z_clsok h1 j1
          have hKn := hE.1.1 ci' _ h1
          have hsz := hr.2.1 q hq
          refine W.newcK hx rfl hown (hts _ (hmem _ List.mem_cons_self)) (hts _ (hmem _ (List.mem_cons_of_mem _ List.mem_cons_self))) (hts _ (hmem _ (List.mem_cons_of_mem _ (List.mem_cons_of_mem _ List.mem_cons_self)))) rfl hdg (by omega) (by omega) hKn.2.1 hsz fun H1 kC hkC e1 z1 o1 => ?_
          refine kk _ _ _ _ _ (hr.push hq z1 o1 ⟨_, h1, (u_born ty hts g3 hKn hkC e1 g1).to (fun j hj => (z_dfs_at h1 j1 j2 j hj).1)⟩) hl hS (by show cells + 1 + c0 = h.2.2.1 + 1; omega) (by show slots + N' + s0 = h.2.2.2 + N'; omega)
        · cases hnw
      · cases hnw
    · cases hop
  · obtain ⟨E, hE9, hop⟩ := Option.bind_eq_some_iff.mp hop
    split at hop
    · simp at hop
    · cases hop
theorem z_sum {ra : Nat → Nat} {r : List Value} (h : r.length ≤ 8) (h2 : ∀ v ∈ r, v.category = 1) : ((r.map (z_rv ra)).map fun v => v.category).sum ≤ 8 := by
  have e : ∀ r : List Value, (∀ v ∈ r, v.category = 1) → ((r.map (z_rv ra)).map fun v => v.category).sum = r.length := by
    intro r
    induction r with
    | nil => intro _; rfl
    | cons v r ih =>
      intro h3
      simp only [List.map_cons, List.sum_cons, List.length_cons]
      rw [ih (fun v hv => h3 v (List.mem_cons_of_mem _ hv)), z_rv_cat, h3 v List.mem_cons_self]
      omega
  rw [e r h2]
  exact h
theorem z_call_next {k : Nat} {own : String} {idx : Nat} {x : Nat × List Value × List Value × z_H} (hop : z_call k own idx ls st h = some (.inl (.inl x))) : False := by
  unfold z_call at hop
  repeat' split at hop
  all_goals first | (simp at hop; done) | (cases hop; done)
set_option maxHeartbeats 2000000 in
theorem z_S_invokespecial {idx : Nat} (hF : z_FR mi p l s m args meth c) (hE : z_EV D cA ra adV HB g s) (hdg : decode c.code pc = .ok (.invokespecial idx, n)) (hn : z_len (.invokespecial idx) = 0 ∨ n = z_len (.invokespecial idx)) (hop : z_op g mi pc (.invokespecial idx) ls st h = some (.inl (.inl (pc', ls', st', h'))))
    (hr : z_HR D cA HB h H) (hl : z_LR ra lsR ls) (hS : ∀ q ∈ locs, HB.size ≤ q.base) (hc : cells + c0 = h.2.2.1) (hs : slots + s0 = h.2.2.2) (hcR : h'.2.2.1 ≤ R.cells + c0) (hsR : h'.2.2.2 ≤ R.slots + s0) (hRf : 10 ≤ R.frames) (hRl : 600 ≤ R.locals) (hml : lsR.size = c.maxLocals)
    (kk : z_KK p l e R s m args below meth c Q D cA ra HB c0 s0 pc' ls' st' h') : W p l e R s m args below meth c H locs cells slots Q (F0 m pc lsR (st.map (z_rv ra))) := by
  have hn : n = 3 := by simpa [z_len] using hn
  subst hn
  have hown := z_own_spec hF
  obtain ⟨hx, ⟨q9, hq9, -, hml9, -⟩, hts, -⟩ := hF
  simp only [z_op] at hop
  split at hop
  · next a r =>
    split at hop
    · next hlk =>
      split at hop
      · next hr9 =>
        simp only [z_go, Option.some.injEq, Sum.inl.injEq, Prod.mk.injEq] at hop
        obtain ⟨rfl, rfl, rfl, rfl⟩ := hop
        obtain ⟨wi, hlk⟩ := Option.isSome_iff_exists.mp hlk
        have hw := z_placesG z_oi0 z_oig
        have hsum := z_sum (ra := ra) hr9.1 hr9.2
        refine W.objInit hx rfl hown (hts _ (hw _ (List.mem_cons_of_mem _ (List.mem_cons_of_mem _ (List.mem_map_of_mem (f := fun q : (String × Nat) × Nat => Cond.methodLink q.1.1 q.1.2 objectInit) (z_lookup_mem hlk)))))) (hts _ (hw _ List.mem_cons_self)) (hts _ (hw _ (List.mem_cons_of_mem _ List.mem_cons_self))) rfl hml rfl hdg (by omega) (by show 2 * 0 + _ + 12 ≤ _; omega) ?_
        exact kk _ _ _ _ _ hr hl hS hc hs
      · cases hop
    · exact (z_call_next hop).elim
  · exact (z_call_next hop).elim
theorem z_strB (hE : z_EV D cA ra adV HB g s) (hr : z_HR D cA HB h H) : zs_B ra adV (z_A HB) s H := by
  obtain ⟨-, -, -, -, -, -, -, -, -, -, h1, h2, h3, -⟩ := hE
  have hq : ∀ a : Nat, a < HB.size → ¬ z_A HB a → H[a]? = HB[a]? := fun a h _ => hr.2.2.2 a h
  exact ⟨h1.kept hq, h2.kept hq, h3.kept hq⟩
/-- a string's length -/
theorem z_P_len {idx k wi : Nat} (hF : z_FR mi p l s m args meth c) (hE : z_EV D cA ra adV HB g s) (hdg : decode c.code pc = .ok (.invokevirtual idx, 3)) (hlk : z_lookup z_prs (z_own mi, idx) = some (0, wi)) (hr : z_HR D cA HB h H) (hl : lsR.size = c.maxLocals) (hRf : 10 ≤ R.frames) (hRl : 600 ≤ R.locals) (hcc : cells ≤ R.cells) (hss : slots ≤ R.slots) {r : List Value} (hsum : (r.map fun v => v.category).sum ≤ 8) (hk : k < 6)
    (kk : W p l e R s m args below meth c H locs cells slots Q (F0 m (pc + 3) lsR (.int (nI (z_lit k).length) :: r))) : W p l e R s m args below meth c H locs cells slots Q (F0 m pc lsR (.ref (ra k) :: r)) := by
  have hown := z_own_spec hF
  obtain ⟨hx, -, hts, -⟩ := hF
  have hlw := z_placesG z_pr0 z_prg _ (List.mem_map_of_mem (f := z_prw) (z_lookup_mem hlk))
  have hB := z_strB hE hr
  exact zs_callV (As := []) (b := ra k) (rest := r) (n := 0) (k := 1) ⟨hx, rfl, hl.symm, hown, hts⟩ (zs_len (ra := ra) (adV := adV) (A := z_A HB) l hk) hlw (zs_at 3 rfl) (zs_at 4 rfl) (zs_at 0 rfl) (zs_at 5 rfl) ⟨by decide, by decide, by decide +kernel⟩ ⟨by omega, by omega⟩ zs_blind (zs_recv hB hk) (fun U hU hW => hB.at hU hW) rfl hsum hcc hss hdg kk
theorem z_P_char {idx k wi : Nat} {j : Int32} (hF : z_FR mi p l s m args meth c) (hE : z_EV D cA ra adV HB g s) (hdg : decode c.code pc = .ok (.invokevirtual idx, 3)) (hlk : z_lookup z_prs (z_own mi, idx) = some (1, wi)) (hr : z_HR D cA HB h H) (hl : lsR.size = c.maxLocals) (hRf : 10 ≤ R.frames) (hRl : 600 ≤ R.locals) (hcc : cells ≤ R.cells) (hss : slots ≤ R.slots) {r : List Value} (hsum : (r.map fun v => v.category).sum ≤ 8) (hk : k < 6) (hj : z_idx j (z_lit k).length = true)
    (kk : W p l e R s m args below meth c H locs cells slots Q (F0 m (pc + 3) lsR (.int ((z_lit k).getD j.toNatClampNeg 0) :: r))) : W p l e R s m args below meth c H locs cells slots Q (F0 m pc lsR (.int j :: .ref (ra k) :: r)) := by
  have hown := z_own_spec hF
  obtain ⟨hx, -, hts, -⟩ := hF
  have hlw := z_placesG z_pr0 z_prg _ (List.mem_map_of_mem (f := z_prw) (z_lookup_mem hlk))
  have hB := z_strB hE hr
  simp only [z_idx, Bool.and_eq_true, Bool.not_eq_true', decide_eq_false_iff_not, decide_eq_true_eq] at hj
  obtain ⟨j0, j1⟩ := hj
  obtain ⟨n, hn, rfl⟩ := nI_of j0
  rw [nI_clamp hn] at j1 kk
  exact zs_callV (As := [.int (nI n)]) (b := ra k) (rest := r) (n := 1) (k := 3) ⟨hx, rfl, hl.symm, hown, hts⟩ (zs_chr (ra := ra) (adV := adV) (A := z_A HB) l hk j1) hlw (zs_at 11 rfl) (zs_at 12 rfl) (zs_at 0 rfl) (zs_at 13 rfl) ⟨by decide, by decide, by decide +kernel⟩ ⟨by omega, by omega⟩ zs_blind (zs_recv hB hk) (fun U hU hW => hB.at hU hW) rfl hsum hcc hss hdg kk
theorem z_P_ck {idx wi : Nat} {i nn : Int32} (hF : z_FR mi p l s m args meth c) (hE : z_EV D cA ra adV HB g s) (hdg : decode c.code pc = .ok (.invokestatic idx, 3)) (hlk : z_lookup z_prs (z_own mi, idx) = some (4, wi)) (hr : z_HR D cA HB h H) (hl : lsR.size = c.maxLocals) (hRf : 10 ≤ R.frames) (hRl : 600 ≤ R.locals) (hcc : cells ≤ R.cells) (hss : slots ≤ R.slots) {r : List Value} (hsum : (r.map fun v => v.category).sum ≤ 8) (h0 : 0 ≤ i) (h1 : i < nn)
    (kk : W p l e R s m args below meth c H locs cells slots Q (F0 m (pc + 3) lsR r)) : W p l e R s m args below meth c H locs cells slots Q (F0 m pc lsR (.int nn :: .int i :: r)) := by
  have hown := z_own_spec hF
  obtain ⟨hx, -, hts, -⟩ := hF
  have hlw := z_placesG z_pr0 z_prg _ (List.mem_map_of_mem (f := z_prw) (z_lookup_mem hlk))
  have hB := z_strB hE hr
  exact zs_callS (As := [.int i, .int nn]) (rest := r) (n := 2) (k := 1) ⟨hx, rfl, hl.symm, hown, hts⟩ (zs_ck0 (ra := ra) (adV := adV) (A := z_A HB) l (Int32.not_lt.mpr h0) h1) hlw (zs_at 22 rfl) (zs_at 0 rfl) (zs_at 23 rfl) ⟨by decide, by decide, by decide +kernel⟩ ⟨by omega, by omega⟩ zs_blind (fun U hU hW => hB.at hU hW) rfl hsum hcc hss hdg kk
theorem z_cl_w (k : Nat) (hk : k < 2) : (∀ w ∈ z_clone0 k, w ∈ lw_tbl) ∧ Cond.native ⟨"java/lang/Object", "clone", "()Ljava/lang/Object;"⟩ ∈ lw_tbl ∧ Cond.instanceMethod ⟨"java/lang/Object", "clone", "()Ljava/lang/Object;"⟩ ∈ lw_tbl := by
  have h := z_places z_clw0
  refine ⟨fun w hw => ?_, h _ (List.mem_append_right _ List.mem_cons_self), h _ (List.mem_append_right _ (List.mem_cons_of_mem _ List.mem_cons_self))⟩
  rcases (show k = 0 ∨ k = 1 by omega) with rfl | rfl
  · exact h _ (List.mem_append_left _ (List.mem_append_left _ hw))
  · exact h _ (List.mem_append_left _ (List.mem_append_right _ hw))
set_option maxHeartbeats 2000000 in
theorem z_clnS {idx k wi a : Nat} {q : Nat × z_H} {r : List Value} (hF : z_FR mi p l s m args meth c) (hE : z_EV D cA ra adV HB g s) (hdg : decode c.code pc = .ok (.invokevirtual idx, 3)) (hlk : z_lookup z_cns (z_own mi, idx) = some (k, wi)) (hv : z_cln h k a = some q)
    (hr : z_HR D cA HB h H) (hl : z_LR ra lsR ls) (hS : ∀ q ∈ locs, HB.size ≤ q.base) (hc : cells + c0 = h.2.2.1) (hs : slots + s0 = h.2.2.2) (hcR : q.2.2.2.1 ≤ R.cells + c0) (hsR : q.2.2.2.2 ≤ R.slots + s0) (hRf : 10 ≤ R.frames) (hRl : 600 ≤ R.locals) (hml : lsR.size = c.maxLocals) (hr9 : r.length ≤ 8 ∧ ∀ v ∈ r, v.category = 1)
    (kk : z_KK p l e R s m args below meth c Q D cA ra HB c0 s0 (pc + 3) ls (.ref q.1 :: r) q.2) : W p l e R s m args below meth c H locs cells slots Q (F0 m pc lsR ((Value.ref a :: r).map (z_rv ra))) := by
  have hown := z_own_spec hF
  obtain ⟨hx, -, hts, -⟩ := hF
  have hk2 : k < 2 := by
    have h1 := List.all_eq_true.mp z_cn_ok _ (z_lookup_mem hlk)
    simpa using h1
  have hlink : (Cond.methodLink (z_own mi) idx ⟨z_cnm k, "clone", "()Ljava/lang/Object;"⟩).before args s = true := hts _ (z_placesG z_cn0 z_cng _ (List.mem_map_of_mem (f := z_cnw) (z_lookup_mem hlk)))
  obtain ⟨w1, w2, w3⟩ := z_cl_w k hk2
  have good : ∀ w ∈ lw_tbl, goodWord w = true → w.before args s = true := fun w h1 h2 => hts w (List.mem_filter.mpr ⟨h1, h2⟩)
  have hsame := good _ (w1 _ List.mem_cons_self) rfl
  have hsel := good _ (w1 _ (List.mem_cons_of_mem _ List.mem_cons_self)) rfl
  have hcast := hE.2.2.2.2.2.1 _ (List.mem_filter.mpr ⟨w1 _ (List.mem_cons_of_mem _ (List.mem_cons_of_mem _ List.mem_cons_self)), rfl⟩)
  have hnat := good _ w2 rfl
  have hinst := good _ w3 rfl
  have hsum := z_sum (ra := ra) hr9.1 hr9.2
  unfold z_cln at hv
  split at hv
  · next q0 ty n f hq hh =>
    split at hv
    · next hty =>
      cases hv
      dsimp only at hcR hsR
      have hsz := hr.2.1 q0 hq
      have hP := hr.one hh
      have ha := hP 0 _ rfl
      have key : ∀ (j : Nat), z_tyl[j]? = some ty → s.vm.findClass (z_cnm k) = some (cA ty) → (∀ (i : Nat) (v : Value), (vp_cell (cA ty) (n, .inl f)).slots[i]? = some v → fits ty v = true) → W p l e R s m args below meth c H locs cells slots Q (F0 m pc lsR (Value.ref a :: r.map (z_rv ra))) := by
        intro j hj hnm hfit
        obtain ⟨c9, t0', f1, f2, f3⟩ := Cond.castable_spec (va_Nw.use (A := args) rfl hcast)
        cases hnm.symm.trans f1
        intro T hT X
        obtain ⟨-, kS, hkS, compS, hkindS⟩ := (hE.1.2 j _ (z_tyat hE.1 j hj)).1 0 (fun _ => .null)
        obtain ⟨-, kA, hkA, comp, hkind⟩ := State.isArrayOf_alike X.warmed.alike ((hE.1.2 j _ (z_tyat hE.1 j hj)).1 0 (fun _ => .null))
        have hsz9 : (vp_cell (cA ty) (n, .inl f)).slots.size = n := by rw [vp_cell_i]; exact arrV_size _ _ _
        obtain ⟨vm', X', st⟩ := X.cloneArray hx hown hlink hsame hnat hinst hsel (a := a) (cell := vp_cell (cA ty) (n, .inl f)) (by rw [hT]; exact ha) (fun k h => by rw [z_vpvm] at h; cases h) (by rw [z_vpvm]; exact fun h => by cases h) (by rw [z_vpcls]; exact hnm) f2 (by rw [z_vpcls]; exact f3)
          (fun i v hv => by
            rw [z_vpcls]
            have hk' : T.vm.classes[cA ty]? = some kA := hkA
            simpa [State.fitsSlot, State.slotType?, hk', hkind] using hfit i v hv)
          (g := F0 m pc lsR (.ref a :: r.map (z_rv ra))) rfl hml rfl hdg (by omega) (by show 2 * 0 + _ + 14 ≤ _; omega) (by omega) (by rw [hsz9]; omega) (hloader := by rw [z_vpcls]; exact Vm.clonesLoader_of_array hkS hkindS)
        have hcellE : ({ cls := (vp_cell (cA ty) (n, .inl f)).cls, slots := (vp_cell (cA ty) (n, .inl f)).slots } : Cell) = vp_cell (cA ty) (n, .inl f) := rfl
        rw [hcellE, hsz9] at X'
        generalize hH1 : H.push (vp_cell (cA ty) (n, .inl f)) = H1
        obtain ⟨t, b1, b2⟩ := kk H1 locs (cells + 1) (slots + n) lsR (hr.push hq (by rw [← hH1, Array.size_push, hsz]) (fun y hy => by rw [← hH1, Array.getElem?_push, if_neg (by omega)]) (by
            show H1[q0]? = some (vp_cell _ _)
            rw [← hH1, ← hsz, Array.getElem?_push_size])) hl hS (by show _ = h.2.2.1 + 1; omega) (by show _ = h.2.2.2 + n; omega) ((T.setVm vm').pushCell (vp_cell (cA ty) (n, .inl f))) (by rw [← hH1, ← hT]; rfl) X'
        refine ⟨t, st t ?_, b2⟩
        have e1 : T.heap.size = q0 := by rw [hT]; exact hsz
        rw [hcellE, e1]
        exact b1
      rcases (show k = 0 ∨ k = 1 by omega) with rfl | rfl
      · have hty := of_decide_eq_true hty
        subst hty
        exact key 0 rfl (va_nm_int (hE.1.2 0 _ (z_tyat hE.1 0 rfl)).2) (va_fit (F := fun j => .int (f j)) fun i _ => rfl)
      · simp only [z_cnk, Bool.and_eq_true, decide_eq_true_eq] at hty
        obtain ⟨hty, hfb⟩ := hty
        subst hty
        refine key 2 rfl (va_nm_byte (hE.1.2 2 _ (z_tyat hE.1 2 rfl)).2) (va_fit (F := fun j => .int (f j)) fun i hi => ?_)
        have := List.all_eq_true.mp hfb i (List.mem_range.mpr hi)
        rw [Nat.zero_add] at this
        exact this
    · cases hv
  · cases hv
set_option maxHeartbeats 2000000 in
theorem z_cpyK {idx wi dst n1 n0 b0 : Nat} {f d9 : Nat → Int32} {scr : Cell} {sp dp nn : Int32} {r : List Value} (hF : z_FR mi p l s m args meth c) (hE : z_EV D cA ra adV HB g s) (hdg : decode c.code pc = .ok (.invokestatic idx, 3)) (hlk : z_lookup z_cps (z_own mi, idx) = some wi)
    (hh : h.1 dst = some (.inl (.byte, n1, .inl d9))) (hs1 : H[b0]? = some scr) (hs2 : s.isArrayOf scr .byte) (hs3 : scr.vm ≠ .unknown) (hs4 : n0 ≤ scr.slots.size) (hs5 : ∀ j : Nat, j < n0 → scr.slots[j]? = some (.int (f j)))
    (g1 : 0 ≤ sp) (g2 : 0 ≤ dp) (g3 : 0 ≤ nn) (g4 : sp.toNatClampNeg + nn.toNatClampNeg ≤ n0) (g5 : dp.toNatClampNeg + nn.toNatClampNeg ≤ n1) (hfit : ∀ i : Nat, i < nn.toNatClampNeg → fits .byte (.int (f (sp.toNatClampNeg + i))) = true)
    (hr : z_HR D cA HB h H) (hl : z_LR ra lsR ls) (hS : ∀ q ∈ locs, HB.size ≤ q.base) (hc : cells + c0 = h.2.2.1) (hs : slots + s0 = h.2.2.2) (hRf : 10 ≤ R.frames) (hRl : 600 ≤ R.locals) (hml : lsR.size = c.maxLocals) (hr9 : r.length ≤ 8 ∧ ∀ v ∈ r, v.category = 1)
    (kk : z_KK p l e R s m args below meth c Q D cA ra HB c0 s0 (pc + 3) ls r (z_up h.1 dst (.inl (.byte, n1, .inl (va_cpy f d9 sp.toNatClampNeg dp.toNatClampNeg nn.toNatClampNeg))), h.2)) : W p l e R s m args below meth c H locs cells slots Q (F0 m pc lsR (.int nn :: .int dp :: .ref dst :: .int sp :: .ref b0 :: r.map (z_rv ra))) := by
  have hown := z_own_spec hF
  obtain ⟨hx, -, hts, -⟩ := hF
  have hlink : (Cond.methodLink (z_own mi) idx arraycopyName).before args s = true := hts _ (z_placesG z_cp0 z_cpg _ (List.mem_map_of_mem (f := fun q : (String × Nat) × Nat => Cond.methodLink q.1.1 q.1.2 arraycopyName) (z_lookup_mem hlk)))
  have hw := z_placesG z_cpw0 z_cpwg
  have hsum := z_sum (ra := ra) hr9.1 hr9.2
  have hwd : nativeFrameWords "java/lang/System" "arraycopy" 5 + 11 ≤ 500 := by decide +kernel
  have nnn : ∀ z : Int32, 0 ≤ z → z.toInt = (z.toNatClampNeg : Int) := by
    intro z hz
    have hz0 : (0 : Int) ≤ z.toInt := by simpa using Int32.le_iff_toInt_le.mp hz
    show z.toInt = ((z.toInt.toNat : Nat) : Int)
    omega
  have hP := hr.one hh
  have hc1 : H[dst]? = some (vp_cell (cA .byte) (n1, .inl d9)) := hP 0 _ rfl
  have hb := (hr.1 dst _ hh).1
  intro T hT X
  obtain ⟨hs6, k0, hk0, cm0, hkk0⟩ := hs2
  obtain ⟨-, k1, hk1, cm1, hkk1⟩ := (hE.1.2 2 _ (z_tyat hE.1 2 rfl)).1 n1 (fun j => .int (d9 j))
  obtain ⟨vm', X', step⟩ := X.arraycopy hx hown hlink (hts _ (hw _ List.mem_cons_self)) (hts _ (hw _ (List.mem_cons_of_mem _ List.mem_cons_self))) (hts _ (hw _ (List.mem_cons_of_mem _ (List.mem_cons_of_mem _ List.mem_cons_self)))) (src := b0) (dst := dst) (cs := scr) (cd := vp_cell (cA .byte) (n1, .inl d9)) (srcPos := sp) (destPos := dp) (n := nn) (by rw [hT]; exact hs1) (by rw [hT]; exact hc1)
    hs6 (fun _ h => by cases h) hs3 (fun h => by cases h) hk0 hk1 hkk0 hkk1 (by simp [refKind]) (Int32.not_lt.mpr g1) (Int32.not_lt.mpr g2) (Int32.not_lt.mpr g3)
    (by rw [nnn sp g1, nnn nn g3]; omega)
    (by rw [nnn dp g2, nnn nn g3]; show ¬ _ > ((arrV (cA .byte) n1 (fun j => .int (d9 j))).slots.size : Int); rw [arrV_size]; omega)
    (fun vm₁ _ i hi => by
      have e : scr.slots.getD (sp.toNatClampNeg + i) .null = .int (f (sp.toNatClampNeg + i)) := by
        rw [Array.getD_eq_getD_getElem?, hs5 _ (by omega)]
        rfl
      refine ⟨?_, ?_⟩
      · rw [e]
        exact hfit i hi
      · rw [e]
        exact trivial)
    (g := F0 m pc lsR (.int nn :: .int dp :: .ref dst :: .int sp :: .ref b0 :: r.map (z_rv ra))) rfl hml (rest := r.map (z_rv ra)) rfl hdg (by omega) (by show 2 * 0 + _ + _ ≤ _; omega)
  have e1 : copied scr (vp_cell (cA .byte) (n1, .inl d9)) sp dp nn = vp_cell (cA .byte) (n1, .inl (va_cpy f d9 sp.toNatClampNeg dp.toNatClampNeg nn.toNatClampNeg)) := va_copiedX (fun z => .int z) scr (cA .byte) f d9 hs5 g4
  rw [e1] at X' step
  have hl9 : dst < H.size := (Array.getElem?_eq_some_iff.mp hc1).1
  have hheap : ((T.setVm vm').setCell dst (vp_cell (cA .byte) (n1, .inl (va_cpy f d9 sp.toNatClampNeg dp.toNatClampNeg nn.toNatClampNeg)))).heap = H.setIfInBounds dst (vp_cell (cA .byte) (n1, .inl (va_cpy f d9 sp.toNatClampNeg dp.toNatClampNeg nn.toNatClampNeg))) := by rw [← hT]; rfl
  have oq : ∀ q : Nat, q ≠ dst → (H.setIfInBounds dst (vp_cell (cA .byte) (n1, .inl (va_cpy f d9 sp.toNatClampNeg dp.toNatClampNeg nn.toNatClampNeg))))[q]? = H[q]? := fun q hq => by simp [Array.getElem?_setIfInBounds, Ne.symm hq]
  obtain ⟨t, a1, b1⟩ := kk _ _ cells slots lsR (hr.up (c := .inl (.byte, n1, .inl (va_cpy f d9 sp.toNatClampNeg dp.toNatClampNeg nn.toNatClampNeg))) hh (by simp) oq (show (H.setIfInBounds dst _)[dst]? = some _ by simp [Array.getElem?_setIfInBounds, hl9, z_cv])) hl (fun q hq => by
      rcases List.mem_append.mp hq with h | h
      · exact hS q h
      · obtain ⟨z, -, hz⟩ := List.mem_map.mp h
        rw [← hz]
        exact hb) hc hs _ hheap X'
  exact ⟨t, step t a1, b1⟩
set_option maxHeartbeats 2000000 in
theorem z_cpyS {idx wi d : Nat} {sp dp nn : Int32} {src : Value} {r : List Value} {h1 : z_H} (hF : z_FR mi p l s m args meth c) (hE : z_EV D cA ra adV HB g s) (hdg : decode c.code pc = .ok (.invokestatic idx, 3)) (hlk : z_lookup z_cps (z_own mi, idx) = some wi) (hv : z_cpy h src sp d dp nn = some h1)
    (hr : z_HR D cA HB h H) (hl : z_LR ra lsR ls) (hS : ∀ q ∈ locs, HB.size ≤ q.base) (hc : cells + c0 = h.2.2.1) (hs : slots + s0 = h.2.2.2) (hRf : 10 ≤ R.frames) (hRl : 600 ≤ R.locals) (hml : lsR.size = c.maxLocals) (hr9 : r.length ≤ 8 ∧ ∀ v ∈ r, v.category = 1)
    (kk : z_KK p l e R s m args below meth c Q D cA ra HB c0 s0 (pc + 3) ls r h1) : W p l e R s m args below meth c H locs cells slots Q (F0 m pc lsR ((Value.int nn :: .int dp :: .ref d :: .int sp :: src :: r).map (z_rv ra))) := by
  unfold z_cpy at hv
  split at hv
  · next N d9 hh =>
    split at hv
    · next hg =>
      obtain ⟨g1, g2, g3, g5⟩ := hg
      split at hv
      · next k =>
        split at hv
        · next hk =>
          cases hv
          obtain ⟨q, rfl⟩ := Nat.exists_eq_add_of_le hk.1
          have hq : q < 6 := by omega
          rw [show 50 + q - 50 = q by omega] at hk kk
          obtain ⟨cell, t1, t2, t3, t4, t5, t6, t7⟩ := z_litT hE hr q hq
          have e9 := hE.2.2.2.2.2.2.2.2.2.2.2.2.2 q hq
          show W p l e R s m args below meth c H locs cells slots Q (F0 m pc lsR (Value.int nn :: .int dp :: .ref d :: .int sp :: .ref (ra (50 + q)) :: r.map (z_rv ra)))
          rw [e9]
          refine z_cpyK (n0 := (z_lit q).length) (f := fun j => (z_lit q).getD j 0) hF hE hdg hlk hh t1 t2 t3 t4 t6 g1 g2 g3 hk.2.2 g5 (fun i hi => ?_) hr hl hS hc hs hRf hRl hml hr9 kk
          exact z_litfit q hq _ (by omega)
        · cases hv
      · next a =>
        split at hv
        · next M f hha =>
          split at hv
          · next hk =>
            cases hv
            have ha := (hr.one hha) 0 _ rfl
            have hao := (hE.1.2 2 _ (z_tyat hE.1 2 rfl)).1 M (fun j => .int (f j))
            refine z_cpyK (n0 := M) (f := f) hF hE hdg hlk hh ha hao (by rw [z_vpvm]; exact fun h => by cases h) (by rw [vp_cell_i, arrV_size]; omega) (fun j hj => by rw [vp_cell_i]; exact arrV_read _ _ hj) g1 g2 g3 hk.2.1 g5 (fun i hi => ?_) hr hl hS hc hs hRf hRl hml hr9 kk
            exact List.all_eq_true.mp hk.2.2 i (List.mem_range.mpr hi)
          · cases hv
        · cases hv
      · cases hv
    · cases hv
  · cases hv
set_option maxHeartbeats 2000000 in
theorem z_S_invokevirtual {idx : Nat} (hF : z_FR mi p l s m args meth c) (hE : z_EV D cA ra adV HB g s) (hdg : decode c.code pc = .ok (.invokevirtual idx, n)) (hn : z_len (.invokevirtual idx) = 0 ∨ n = z_len (.invokevirtual idx)) (hop : z_op g mi pc (.invokevirtual idx) ls st h = some (.inl (.inl (pc', ls', st', h'))))
    (hr : z_HR D cA HB h H) (hl : z_LR ra lsR ls) (hS : ∀ q ∈ locs, HB.size ≤ q.base) (hc : cells + c0 = h.2.2.1) (hs : slots + s0 = h.2.2.2) (hcR : h'.2.2.1 ≤ R.cells + c0) (hsR : h'.2.2.2 ≤ R.slots + s0) (hRf : 10 ≤ R.frames) (hRl : 600 ≤ R.locals) (hml : lsR.size = c.maxLocals)
    (kk : z_KK p l e R s m args below meth c Q D cA ra HB c0 s0 pc' ls' st' h') : W p l e R s m args below meth c H locs cells slots Q (F0 m pc lsR (st.map (z_rv ra))) := by
  have hn : n = 3 := by simpa [z_len] using hn
  subst hn
  simp only [z_op] at hop
  split at hop
  · next k wi hlk =>
    split at hop
    · next a r =>
      split at hop
      · next h9 =>
        obtain ⟨q, hv, hop⟩ := Option.bind_eq_some_iff.mp hop
        simp only [z_go, Option.some.injEq, Sum.inl.injEq, Prod.mk.injEq] at hop
        obtain ⟨rfl, rfl, rfl, rfl⟩ := hop
        exact z_clnS hF hE hdg hlk hv hr hl hS hc hs hcR hsR hRf hRl hml h9 kk
      · cases hop
    · cases hop
  · split at hop
    · next pp wi hlk =>
      split at hop
      · next h9 =>
        obtain ⟨hL, h9⟩ := h9
        obtain ⟨st9, hp, hop⟩ := Option.bind_eq_some_iff.mp hop
        simp only [z_go, Option.some.injEq, Sum.inl.injEq, Prod.mk.injEq] at hop
        obtain ⟨rfl, rfl, rfl, rfl⟩ := hop
        unfold z_isL at hL
        split at hL
        · next k r =>
          simp only [z_prim] at hp
          split at hp
          · next hk =>
            cases hp
            have hsum := z_sum (ra := ra) (r := r) (by have := h9.1; simp at this; omega) (fun v hv => h9.2 v (List.mem_cons_of_mem _ hv))
            exact z_P_len hF hE hdg hlk hr hml hRf hRl (by omega) (by omega) hsum (by omega) (kk _ _ _ _ _ hr hl hS hc hs)
          · cases hp
        · next v k r =>
          cases v with
          | int jj =>
            simp only [z_prim] at hp
            split at hp
            · next hk =>
              cases hp
              have hsum := z_sum (ra := ra) (r := r) (by have := h9.1; simp at this; omega) (fun v hv => h9.2 v (List.mem_cons_of_mem _ (List.mem_cons_of_mem _ hv)))
              exact z_P_char hF hE hdg hlk hr hml hRf hRl (by omega) (by omega) hsum (by omega) hk.2 (kk _ _ _ _ _ hr hl hS hc hs)
            · cases hp
          | _ => simp [z_prim] at hp
        · cases hL
      · cases hop
    · exact (z_call_next hop).elim
set_option maxHeartbeats 2000000 in
theorem z_S_invokestatic {idx : Nat} (hF : z_FR mi p l s m args meth c) (hE : z_EV D cA ra adV HB g s) (hdg : decode c.code pc = .ok (.invokestatic idx, n)) (hn : z_len (.invokestatic idx) = 0 ∨ n = z_len (.invokestatic idx)) (hop : z_op g mi pc (.invokestatic idx) ls st h = some (.inl (.inl (pc', ls', st', h'))))
    (hr : z_HR D cA HB h H) (hl : z_LR ra lsR ls) (hS : ∀ q ∈ locs, HB.size ≤ q.base) (hc : cells + c0 = h.2.2.1) (hs : slots + s0 = h.2.2.2) (hcR : h'.2.2.1 ≤ R.cells + c0) (hsR : h'.2.2.2 ≤ R.slots + s0) (hRf : 10 ≤ R.frames) (hRl : 600 ≤ R.locals) (hml : lsR.size = c.maxLocals)
    (kk : z_KK p l e R s m args below meth c Q D cA ra HB c0 s0 pc' ls' st' h') : W p l e R s m args below meth c H locs cells slots Q (F0 m pc lsR (st.map (z_rv ra))) := by
  have hn : n = 3 := by simpa [z_len] using hn
  subst hn
  simp only [z_op] at hop
  split at hop
  · next wi hlk =>
    split at hop
    · next nn dp d sp src r =>
      split at hop
      · next h9 =>
        obtain ⟨q, hv, hop⟩ := Option.bind_eq_some_iff.mp hop
        simp only [z_go, Option.some.injEq, Sum.inl.injEq, Prod.mk.injEq] at hop
        obtain ⟨rfl, rfl, rfl, rfl⟩ := hop
        exact z_cpyS hF hE hdg hlk hv hr hl hS hc hs hRf hRl hml h9 kk
      · cases hop
    · cases hop
  have hown := z_own_spec hF
  have hF' := hF
  obtain ⟨hx, -, hts, -⟩ := hF
  split at hop
  · next pp wi hlk =>
    split at hop
    · next h9 =>
      obtain ⟨st9, hp, hop⟩ := Option.bind_eq_some_iff.mp hop
      simp only [z_go, Option.some.injEq, Sum.inl.injEq, Prod.mk.injEq] at hop
      obtain ⟨rfl, rfl, rfl, rfl⟩ := hop
      have hmem := z_placesG z_mx0 z_mxg
      have hlw := z_placesG z_pr0 z_prg _ (List.mem_map_of_mem (f := z_prw) (z_lookup_mem hlk))
      unfold z_prim at hp
      split at hp
      · exact absurd h9.1 (by decide)
      · exact absurd h9.1 (by decide)
      · next y x r =>
        cases hp
        have hsum := z_sum (ra := ra) (r := r) (by have := h9.2.1; simp at this; omega) (fun v hv => h9.2.2 v (List.mem_cons_of_mem _ (List.mem_cons_of_mem _ hv)))
        exact va_mmax hx rfl hml.symm hown (hts _ hlw) (hts _ (hmem _ (List.mem_of_getElem? (i := 1) rfl))) (hts _ (hmem _ (List.mem_of_getElem? (i := 0) rfl))) (hts _ (hmem _ (List.mem_of_getElem? (i := 2) rfl))) (by omega) (by omega) (by omega) (by omega) hdg (kk _ _ _ _ _ hr hl hS hc hs)
      · next y x r =>
        cases hp
        have hsum := z_sum (ra := ra) (r := r) (by have := h9.2.1; simp at this; omega) (fun v hv => h9.2.2 v (List.mem_cons_of_mem _ (List.mem_cons_of_mem _ hv)))
        exact va_mmin hx rfl hml.symm hown (hts _ hlw) (hts _ (hmem _ (List.mem_of_getElem? (i := 3) rfl))) (hts _ (hmem _ (List.mem_of_getElem? (i := 0) rfl))) (hts _ (hmem _ (List.mem_of_getElem? (i := 4) rfl))) (by omega) (by omega) (by omega) (by omega) hdg (kk _ _ _ _ _ hr hl hS hc hs)
      · next y x r =>
        split at hp
        · next hk =>
          cases hp
          have hsum := z_sum (ra := ra) (r := st9) (by have := h9.2.1; simp at this; omega) (fun v hv => h9.2.2 v (List.mem_cons_of_mem _ (List.mem_cons_of_mem _ hv)))
          exact z_P_ck hF' hE hdg hlk hr hml hRf hRl (by omega) (by omega) hsum hk.1 hk.2 (kk _ _ _ _ _ hr hl hS hc hs)
        · cases hp
      · cases hp
    · cases hop
  · exact (z_call_next hop).elim
end ZMI
