/-! the induction over the fuel, and a method's contract -/
section ZTH
variable {l : Launch} {D : va_G} {cA : FieldType → ClassId} {ra adV : Nat → Nat} {HB : Heap} {g : z_G}
def z_Cl (l : Launch) (D : va_G) (cA : FieldType → ClassId) (ra adV : Nat → Nat) (HB : Heap) (g : z_G) (d mi pc : Nat) (ls st : List Value) (h : z_H) (r : z_Res) : Prop :=
  ∀ (p : Program) (e : Env) (R : Room) (s : State) (m : MethodId) (args : Array Value) (below : List Frame) (meth : Method) (c : Code) (H : Heap) (locs : List Loc) (cells slots : Nat) (Q : State → Prop) (lsR : Array Slot) (c0 s0 : Nat),
    z_FR mi p l s m args meth c → z_EV D cA ra adV HB g s → (HB.size ≤ s.heap.size ∧ ∀ q, q < HB.size → s.heap[q]? = HB[q]?) → d + 10 ≤ R.frames → 100 * (d + 10) ≤ R.locals → r.2.2.2.1 ≤ R.cells + c0 → r.2.2.2.2 ≤ R.slots + s0 → ls.length = c.maxLocals →
    z_HR D cA HB h H → z_LR ra lsR ls → (∀ q ∈ locs, HB.size ≤ q.base) → cells + c0 = h.2.2.1 → slots + s0 = h.2.2.2 → z_End p l e R s m args below meth c Q D cA ra HB mi c0 s0 r → W p l e R s m args below meth c H locs cells slots Q (F0 m pc lsR (st.map (z_rv ra)))
theorem z_largs {vs : List Value} (hc : ∀ v ∈ vs, v.category = 1) : ∀ (i k : Nat) (v : Value), vs[k]? = some v → (i + k, v) ∈ lv_args i vs := by
  induction vs with
  | nil => intro i k v h; simp at h
  | cons a vs ih =>
    intro i k v h
    unfold lv_args
    have ha : ¬ a.category = 2 := by rw [hc a List.mem_cons_self]; decide
    rw [if_neg ha]
    cases k with
    | zero =>
      simp at h
      subst h
      exact List.mem_cons_self
    | succ k =>
      simp at h
      have := ih (fun v hv => hc v (List.mem_cons_of_mem _ hv)) (i + 1) k v h
      rw [show i + (k + 1) = i + 1 + k by omega]
      exact List.mem_cons_of_mem _ this
theorem z_slen {vs : List Value} (hc : ∀ v ∈ vs, v.category = 1) : (lg_sl vs).length = vs.length := by
  induction vs with
  | nil => rfl
  | cons a vs ih =>
    have ha : ¬ a.category = 2 := by rw [hc a List.mem_cons_self]; decide
    simp only [lg_sl, List.flatMap_cons, if_neg ha, List.length_append, List.length_cons, List.length_nil]
    have := ih (fun v hv => hc v (List.mem_cons_of_mem _ hv))
    simp only [lg_sl] at this
    omega
/-- a method's contract out of its run -/
theorem z_conOf {d m' : Nat} {as : List Value} {h : z_H} {r : z_Res} (hcat : ∀ v ∈ as, v.category = 1) (hlen : as.length ≤ z_maxL m') (hm1 : h.2.2.1 ≤ r.2.2.2.1) (hm2 : h.2.2.2 ≤ r.2.2.2.2) (hl : l.stackTraces = false) (hpl : ∀ q, z_me m' = some q → plainName q.1.cls = true)
    (hcl : z_Cl l D cA ra adV HB g d m' 0 (z_pad m' as) [] h r) : z_Con l D cA ra adV HB g d m' as h r := by
  intro q hq
  have hmaxL : z_maxL m' = q.2.2.1 := by simp [z_maxL, hq]
  rw [hmaxL] at hlen
  have hcatR : ∀ v ∈ as.map (z_rv ra), v.category = 1 := fun v hv => by
    obtain ⟨x, hx, rfl⟩ := List.mem_map.mp hv
    rw [z_rv_cat]; exact hcat x hx
  have hsl : (lg_sl (as.map (z_rv ra))).length ≤ q.2.2.1 := by rw [z_slen hcatR, List.length_map]; exact hlen
  have body : ∀ p e s m args below meth c s₁, BodyLoose p l q.1 (headSpec (z_ws q) (z_room d (r.2.2.2.1 - h.2.2.1) (r.2.2.2.2 - h.2.2.2))) q.2.1 q.2.2.1 q.2.2.2.1 e s m args below meth c s₁ → c.maxLocals = q.2.2.1 → c.exceptionTable.toList = tableOf q.2.2.2.2 → z_Pc D cA ra adV HB g as h args s →
      W p l e (headSpec (z_ws q) (z_room d (r.2.2.2.1 - h.2.2.1) (r.2.2.2.2 - h.2.2.2))).room s m args below meth c s.heap [] 0 0 (vx_MQ below (z_Qc D cA ra HB r) (z_XC D cA HB r) args s (r.2.2.2.1 - h.2.2.1) (r.2.2.2.2 - h.2.2.2) (z_A HB)) (entryFrame m args q.2.2.1) := by
    intro p e s m args below meth c s₁ B hml hext hP
    obtain ⟨rfl, hr, hE⟩ := hP
    have hpre := atoms_spec (ws := z_ws q) B.pre
    have hF : z_FR m' p l s m (as.map (z_rv ra)).toArray meth c := ⟨B.exec, ⟨q, hq, B.bytes, hml, findClass_of_methodNamed B.named, fun hn => (name_of_methodNamed B.named B.method).1.trans hn, hext, B.returns⟩, fun w hw => hpre w (List.mem_cons_of_mem _ hw), hl, B.notSynchronized⟩
    have hl0 := lv_entry (as.map (z_rv ra)) (n := q.2.2.1) hsl
    rw [lg_entry_eq]
    have hplen : (z_pad m' as).length = q.2.2.1 := by
      unfold z_pad
      rw [List.length_append, List.length_replicate, hmaxL]
      omega
    have hLR : z_LR ra ((lg_sl (as.map (z_rv ra)) ++ List.replicate (q.2.2.1 - (lg_sl (as.map (z_rv ra))).length) Slot.unset).toArray) (z_pad m' as) := by
      refine ⟨⟨by rw [hplen]; exact hl0.1, hl0.2.1, fun x hx => ?_⟩, fun v hv => ?_⟩
      · obtain ⟨v, h1, h2, h3⟩ := z_kn_of hx
        refine hl0.2.2 x ?_
        have h4 : as[x.1]? = some v := by
          unfold z_pad at h1
          by_cases hlt : x.1 < as.length
          · rw [List.getElem?_append_left hlt] at h1
            exact h1
          · rw [List.getElem?_append_right (by omega)] at h1
            have := List.mem_of_getElem? h1
            exact absurd (List.eq_of_mem_replicate this) h2
        have h5 := z_largs hcatR 0 x.1 (z_rv ra v) (by rw [List.getElem?_map, h4]; rfl)
        rw [Nat.zero_add, ← h3] at h5
        exact h5
      · unfold z_pad at hv
        rcases List.mem_append.mp hv with z | z
        · exact hcat v z
        · rw [List.eq_of_mem_replicate z]; rfl
    have hmc : ((headSpec (z_ws q) (z_room d (r.2.2.2.1 - h.2.2.1) (r.2.2.2.2 - h.2.2.2))).room).cells = r.2.2.2.1 - h.2.2.1 := rfl
    have hms : ((headSpec (z_ws q) (z_room d (r.2.2.2.1 - h.2.2.1) (r.2.2.2.2 - h.2.2.2))).room).slots = r.2.2.2.2 - h.2.2.2 := rfl
    refine hcl p e _ s m _ below meth c s.heap [] 0 0 _ _ h.2.2.1 h.2.2.2 hF hE ⟨hr.2.2.1, hr.2.2.2⟩ (Nat.le_refl _) (Nat.le_refl _) (by rw [hmc]; omega) (by rw [hms]; omega) (by rw [hplen, hml]) hr hLR (fun q hq => by cases hq) (Nat.zero_add _) (Nat.zero_add _) ⟨?_, ?_⟩
    · intro v hv pc2 i2 st2 lsR2 H2 locs2 cells2 slots2 hret d9 hr2 hS2 hc2 hs2
      have e1 : cells2 = r.2.2.2.1 - h.2.2.1 := by omega
      have e2 : slots2 = r.2.2.2.2 - h.2.2.2 := by omega
      subst e1; subst e2
      refine vx_ret ?_
      rcases hret with ⟨rfl, rfl, rfl, hrt⟩ | ⟨x, t9, rfl, rfl, rfl, hrt, hnx⟩ | ⟨w, t9, rfl, rfl, rfl, hw, hrt, hrt2⟩
      · have hr0 : meth.sig.returnType = none := by rw [B.returns]; simpa [z_rt, hq] using hrt
        exact W.vret B.exec rfl hr0 (fun t ht hW => ⟨⟨none, hv, rfl⟩, by rw [ht]; exact hr2⟩) hS2 d9
      · have hq9 : ∀ t : State, t.heap = H2 → s.WarmedH t.vm → z_Qc D cA ra HB r (as.map (z_rv ra)).toArray s (.returned (some (.int x))) t := fun t ht hW => ⟨⟨some (.int x), hv, rfl⟩, by rw [ht]; exact hr2⟩
        have hr0 : meth.sig.returnType = some t9 := by rw [B.returns]; simpa [z_rt, hq] using hrt
        exact W.zret B.exec rfl hr0 hnx hq9 hS2 d9
      · have hq9 : ∀ t : State, t.heap = H2 → s.WarmedH t.vm → z_Qc D cA ra HB r (as.map (z_rv ra)).toArray s (.returned (some (z_rv ra w))) t := fun t ht hW => ⟨⟨some w, hv, rfl⟩, by rw [ht]; exact hr2⟩
        have hr0 : meth.sig.returnType = some t9 := by rw [B.returns]; simpa [z_rt, hq] using hrt
        exact W.aret B.exec rfl hr0 hrt2 (by rcases hw with rfl | ⟨a, rfl⟩ <;> first | exact Or.inl rfl | exact Or.inr ⟨_, rfl⟩) hq9 hS2 d9
    · intro E hE9
      exact ⟨_, _, _, _, _, rfl, fun t _ h1 => ⟨hE9, h1⟩, fun q hq => hq, by omega, by omega⟩
  cases hhh : q.2.2.2.2 with
  | nil =>
    have hcode : z_ws q = Cond.code q.1 q.2.1 q.2.2.1 q.2.2.2.1 :: z_tbl := by
      unfold z_ws z_code; rw [hhh]
    refine vx_ofW (hpl q hq) hcode fun p e s m args below meth c s₁ B hml hext hP => body p e s m args below meth c s₁ B hml ?_ hP
    rw [hhh]
    cases hx : c.exceptionTable.toList with
    | nil => rfl
    | cons x xs => exact (hext x (by rw [hx]; exact List.mem_cons_self)).elim
  | cons h9 hs9 =>
    have hcode : z_ws q = Cond.codeWith q.1 q.2.1 q.2.2.1 q.2.2.2.1 (h9 :: hs9) :: z_tbl := by
      unfold z_ws z_code; rw [hhh]
    refine vx_ofWH (hpl q hq) hcode fun p e s m args below meth c s₁ B hml hP => body p e s m args below meth c s₁ B hml ?_ hP
    rw [hhh]
    exact vx_table (x := q.1) B (atoms_spec (ws := z_ws q) B.pre _ (by rw [hcode]; exact List.mem_cons_self))
theorem z_call_pl {i : Instr} {mi pc m' : Nat} {ls st as r9 : List Value} {h : z_H} (hop : z_op g mi pc i ls st h = some (.inl (.inr (m', as, r9)))) : (∀ v ∈ as, v.category = 1) ∧ ∀ q, z_me m' = some q → plainName q.1.cls = true := by
  have key : ∀ {k : Nat} {own : String} {idx : Nat}, z_call k own idx ls st h = some (.inl (.inr (m', as, r9))) → (∀ v ∈ as, v.category = 1) ∧ ∀ q, z_me m' = some q → plainName q.1.cls = true := by
    intro k own idx hc
    obtain ⟨kind, n, h1, -, -, -, -, -, h2⟩ := z_call_spec hc
    obtain ⟨q, hq, -, -, -, -, -, -, -, -, -, -, h3, -⟩ := z_clk_spec h1
    exact ⟨fun v hv => h2 v (List.mem_append_right _ hv), fun q' hq' => by cases hq.symm.trans hq'; exact h3⟩
  cases hi : z_inv i with
  | false => exact (z_noCall hi hop).elim
  | true =>
    cases i <;> simp only [z_inv, reduceCtorEq] at hi <;> simp only [z_op] at hop
    all_goals repeat' first
      | exact key hop
      | (simp only [z_go, Option.some.injEq, Sum.inl.injEq, reduceCtorEq] at hop; done)
      | split at hop
      | (obtain ⟨_, -, hop⟩ := Option.bind_eq_some_iff.mp hop)
set_option maxHeartbeats 2000000 in
theorem z_sound (hl : l.stackTraces = false) : ∀ (n d mi pc : Nat) (ls st : List Value) (h : z_H) (r : z_Res), z_rn g n d mi pc ls st h = some r → z_Cl l D cA ra adV HB g d mi pc ls st h r := by
  intro n
  induction n with
  | zero => intro d mi pc ls st h r hr; cases hr
  | succ n ih =>
    intro d mi pc ls st h r hrn p e R s m args below meth c H locs cells slots Q lsR c0 s0 hF hE hB0 hRf hRl hcR hsR hml hr hlr hS hc hs hend
    have hmono := z_rn_mono g _ _ _ _ _ _ _ _ hrn
    have hml2 : lsR.size = c.maxLocals := hlr.1.1.trans hml
    unfold z_rn at hrn
    split at hrn
    · cases hrn
    · next pc' ls' st' h' hsem =>
      obtain ⟨i, k, hi, hn, hop⟩ := z_sem_op hsem
      have h1 := z_rn_mono g _ _ _ _ _ _ _ _ hrn
      have h2 := z_op_mono hop
      exact z_opS hF hE (z_ins_spec hF hi) hn hop hr hlr hS hc hs (by omega) (by omega) (by omega) (by omega) hml2 hB0
        (fun H' locs' cells' slots' lsR' a1 a2 a3 a4 a5 => ih _ _ _ _ _ _ _ hrn p e R s m args below meth c H' locs' cells' slots' Q lsR' c0 s0 hF hE hB0 hRf hRl hcR hsR (h2.2.trans hml) a1 a2 a3 a4 a5 hend)
    · next m' as r9 hsem =>
      obtain ⟨i, k, hi, hn, hop⟩ := z_sem_op hsem
      split at hrn
      · cases hrn
      · next d' =>
        split at hrn
        · next hlen =>
          obtain ⟨hcat, hpl⟩ := z_call_pl hop
          have hcon : ∀ x, z_rn g n d' m' 0 (z_pad m' as) [] h = some x → z_Con l D cA ra adV HB g d' m' as h x := fun x hx => z_conOf hcat hlen (z_rn_mono g _ _ _ _ _ _ _ _ hx).1 (z_rn_mono g _ _ _ _ _ _ _ _ hx).2 hl hpl (ih _ _ _ _ _ _ _ hx)
          split at hrn
          · cases hrn
          · next v h' hx =>
            have h1 := z_rn_mono g _ _ _ _ _ _ _ _ hrn
            have h2 := z_rn_mono g _ _ _ _ _ _ _ _ hx
            dsimp only at h1 h2
            exact z_callS (res := (.inr v, h')) hF hE (z_ins_spec hF hi) hn hop hr hS hc hs (by dsimp only; omega) (by dsimp only; omega) (by omega) (by omega) hml2 h2.1 h2.2 (fun E hE => by cases hE) (hcon _ hx)
              (fun v2 hv2 H' locs' cells' slots' a1 a2 a3 a4 => by
                cases hv2
                exact ih _ _ _ _ _ _ _ hrn p e R s m args below meth c H' locs' cells' slots' Q lsR c0 s0 hF hE hB0 hRf hRl hcR hsR hml a1 hlr a2 a3 a4 hend)
              (fun E hE9 => by cases hE9)
          · next E h' hx =>
            have h2 := z_rn_mono g _ _ _ _ _ _ _ _ hx
            dsimp only at h2
            split at hrn
            · cases hrn
            · next hjd =>
              simp only [Bool.not_eq_true] at hjd
              split at hrn
              · next hh =>
                cases hrn
                dsimp only at hcR hsR
                refine z_callS (res := (.inl E, h')) hF hE (z_ins_spec hF hi) hn hop hr hS hc hs (by dsimp only; omega) (by dsimp only; omega) (by omega) (by omega) hml2 h2.1 h2.2 (fun _ _ => hjd) (hcon _ hx)
                  (fun v2 hv2 => by cases hv2)
                  (fun E2 hE2 H' locs' cells' slots' q ce a1 a2 a3 a4 b1 b2 b3 => ?_)
                cases hE2
                obtain ⟨Qc, XC, mc, ms, free, rfl, e1, e2, e3, e4⟩ := hend.2 E rfl
                dsimp only at e3 e4 a3 a4
                have hext : c.exceptionTable.toList = [] := by
                  obtain ⟨-, ⟨q9, hq9, -, -, -, -, hext, -⟩, -⟩ := hF
                  rw [hext]
                  simp only [z_hds, hq9] at hh
                  rw [hh]; rfl
                exact vx_out (fun x hx => by rw [hext] at hx; cases hx) hF.2.2.2.2 b1 b2 b3 (fun t ht hal => e1 t hal (by rw [ht]; exact a1)) (fun z hz => e2 _ (a2 z hz)) (by omega) (by omega)
              · split at hrn
                · next pc' ls' hhd =>
                  have h1 := z_rn_mono g _ _ _ _ _ _ _ _ hrn
                  exact z_callS (res := (.inl E, h')) hF hE (z_ins_spec hF hi) hn hop hr hS hc hs (by dsimp only; omega) (by dsimp only; omega) (by omega) (by omega) hml2 h2.1 h2.2 (fun _ _ => hjd) (hcon _ hx)
                    (fun v2 hv2 => by cases hv2)
                    (fun E2 hE2 H' locs' cells' slots' q ce a1 a2 a3 a4 b1 b2 b3 => by
                      cases hE2
                      exact z_catchS hF hE hhd hlr b1 b2 b3 fun lsR' hlr' => ih _ _ _ _ _ _ _ hrn p e R s m args below meth c H' locs' cells' slots' Q lsR' c0 s0 hF hE hB0 hRf hRl hcR hsR ((z_hd_len hhd).trans hml) a1 hlr' a2 a3 a4 hend)
                · cases hrn
        · cases hrn
    · next v hsem =>
      cases hrn
      obtain ⟨i, k, hi, hn, hop⟩ := z_sem_op hsem
      have hdg := z_ins_spec hF hi
      have hend9 := z_op_ret hop
      have hk : k = 1 := by
        rcases hend9 with ⟨rfl, -⟩ | ⟨_, _, rfl, -⟩ | ⟨_, _, rfl, -⟩ <;> simpa [z_len] using hn
      subst hk
      exact hend.1 v rfl pc i st lsR H locs cells slots hend9 hdg hr hS hc hs
    · next E h' hsem =>
      cases hrn
      obtain ⟨i, k, hi, hn, hop⟩ := z_sem_op hsem
      have hdg := z_ins_spec hF hi
      obtain ⟨idx, rfl, hth, hh, rfl, rfl⟩ := z_op_throw hop
      have hk : k = 3 := by simpa [z_len] using hn
      subst hk
      dsimp only at hcR hsR
      exact z_throwS hF hE hB0 hdg hth hh hr hS hc hs hcR hsR (by omega) (by omega) hml2 hend
end ZTH
