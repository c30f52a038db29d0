/-! the simulation: throws, handlers, the induction, the contracts -/
def z_nms : List String := ["java/lang/RuntimeException", "java/lang/Exception"]
def z_thok (q : (String × Nat) × (String × Nat × Nat × Nat)) : Bool :=
  Bundle.fit q.2.1 && z_nms.all Bundle.fit && ((vx_atS q.1.1 q.2.2.1 q.2.1 z_nms).filter goodWord).all (fun w => decide (w ∈ lw_tbl)) && ((vx_atS q.1.1 q.2.2.1 q.2.1 z_nms).filter (fun w => !goodWord w)).all (fun w => decide (w ∈ lw_tbl) && z_isV w) &&
  (Cond.classLink q.1.1 q.1.2 q.2.1 :: Cond.initialized q.2.1 :: vx_atS q.1.1 q.2.2.1 q.2.1 z_nms).all vx_ot
set_option maxRecDepth 100000 in
theorem z_ths_ok : z_exs.all z_thok = true := by decide +kernel
def z_hcok (q : (String × Nat) × (String × Nat × Nat)) : Bool := decide (q.1.2 ≠ 0)
theorem z_hcs_ok : z_hcs.all z_hcok = true := by decide
section ZSO
variable {p : Program} {l : Launch} {e : Env} {R : Room} {s : State} {m : MethodId} {args : Array Value} {below : List Frame} {meth : Method} {c : Code} {H : Heap} {locs : List Loc} {cells slots : Nat} {Q : State → Prop}
variable {D : va_G} {cA : FieldType → ClassId} {ra adV : Nat → Nat} {HB : Heap} {g : z_G} {mi pc pc' c0 s0 n : Nat} {lsR : Array Slot} {ls ls' st st' as r9 : List Value} {h h' : z_H} {i : Instr} {res : z_Res} {d m' idx : Nat}
theorem z_HR.lost (hr : z_HR D cA HB h H) {t : Heap} {k : Nat} (h1 : t.size = H.size + 1) (h2 : ∀ q : Nat, q < H.size → t[q]? = H[q]?) : z_HR D cA HB (h.1, h.2.1.map (· + 1), k, n) t := by
  obtain ⟨a1, a2, a3, a4⟩ := hr
  refine ⟨fun a cx hx => ?_, (fun q hq => ?_), by omega, fun q hq => ?_⟩
  · obtain ⟨g1, g2⟩ := a1 a cx hx
    exact ⟨g1, g2.kept (h2 a g2.lt)⟩
  · obtain ⟨q0, hq0, rfl⟩ := Option.map_eq_some_iff.mp hq
    rw [h1, a2 q0 hq0]
  · rw [h2 q (by omega)]
    exact a4 q hq
def z_End (p : Program) (l : Launch) (e : Env) (R : Room) (s : State) (m : MethodId) (args : Array Value) (below : List Frame) (meth : Method) (c : Code) (Q : State → Prop) (D : va_G) (cA : FieldType → ClassId) (ra : Nat → Nat) (HB : Heap) (mi c0 s0 : Nat) (r : z_Res) : Prop :=
  (∀ v, r.1 = .inr v → ∀ (pc2 : Nat) (i2 : Instr) (st2 : List Value) (lsR2 : Array Slot) (H2 : Heap) (locs2 : List Loc) (cells2 slots2 : Nat), z_endI mi i2 v st2 → decode c.code pc2 = .ok (i2, 1) →
    z_HR D cA HB r.2 H2 → (∀ q ∈ locs2, HB.size ≤ q.base) → cells2 + c0 = r.2.2.2.1 → slots2 + s0 = r.2.2.2.2 → W p l e R s m args below meth c H2 locs2 cells2 slots2 Q (F0 m pc2 lsR2 (st2.map (z_rv ra)))) ∧
  (∀ E, r.1 = .inl E → ∃ (Qc : Array Value → State → Outcome → State → Prop) (XC : String → State → State → Prop) (mc ms : Nat) (free : Addr → Prop), Q = vx_MQ below Qc XC args s mc ms free ∧ (∀ t : State, s.vm.Alike t.vm → z_HR D cA HB r.2 t.heap → XC E s t) ∧ (∀ q : Nat, HB.size ≤ q → free q) ∧ r.2.2.2.1 ≤ mc + c0 ∧ r.2.2.2.2 ≤ ms + s0)
theorem z_th_spec {own E : String} (h1 : z_th mi pc own idx = some E) : ∃ q, z_lookup z_exs (own, idx) = some q ∧ q.1 = E ∧ z_ins mi (pc + 3) = some (.dup, 1) ∧ ((∃ is tx, z_ins mi (pc + 4) = some (.ldc is, 2) ∧ z_lookup z_sxs (own, is) = some tx ∧ z_ins mi (pc + 6) = some (.invokespecial q.2.1, 3) ∧ z_ins mi (pc + 9) = some (.athrow, 1)) ∨
    (∃ is tx, z_ins mi (pc + 4) = some (.ldc_w is, 3) ∧ z_lookup z_sxs (own, is) = some tx ∧ z_ins mi (pc + 7) = some (.invokespecial q.2.1, 3) ∧ z_ins mi (pc + 10) = some (.athrow, 1))) := by
  unfold z_th at h1
  split at h1
  · next E' ic pos hlk =>
    split at h1
    · next is e1 e2 =>
      split at h1
      · next hc =>
        cases h1
        obtain ⟨tx, ht⟩ := Option.isSome_iff_exists.mp hc.1
        exact ⟨_, hlk, rfl, e1, Or.inl ⟨is, tx, e2, ht, hc.2.1, hc.2.2⟩⟩
      · cases h1
    · next is e1 e2 =>
      split at h1
      · next hc =>
        cases h1
        obtain ⟨tx, ht⟩ := Option.isSome_iff_exists.mp hc.1
        exact ⟨_, hlk, rfl, e1, Or.inr ⟨is, tx, e2, ht, hc.2.1, hc.2.2⟩⟩
      · cases h1
    · cases h1
  · cases h1
theorem z_ins_spec (hF : z_FR mi p l s m args meth c) {x : Instr × Nat} (hi : z_ins mi pc = some x) : decode c.code pc = .ok x := by
  obtain ⟨-, ⟨q, hq, hb, -⟩, -⟩ := hF
  unfold z_ins at hi
  rw [hq] at hi
  dsimp only at hi
  rw [hb]
  split at hi
  · next r hr => cases hi; exact hr
  · cases hi
set_option maxHeartbeats 1000000 in
theorem z_throwS {E : String} (hF : z_FR mi p l s m args meth c) (hE : z_EV D cA ra adV HB g s) (hB0 : HB.size ≤ s.heap.size ∧ ∀ q, q < HB.size → s.heap[q]? = HB[q]?) (hdg : decode c.code pc = .ok (.new idx, 3)) (hth : z_th mi pc (z_own mi) idx = some E) (hh : z_hds mi = [])
    (hr : z_HR D cA HB h H) (hS : ∀ q ∈ locs, HB.size ≤ q.base) (hc : cells + c0 = h.2.2.1) (hs : slots + s0 = h.2.2.2) (hcR : h.2.2.1 + 1 ≤ R.cells + c0) (hsR : h.2.2.2 + 6 ≤ R.slots + s0) (hRf : 10 ≤ R.frames) (hRl : 600 ≤ R.locals) (hml : lsR.size = c.maxLocals)
    (hend : z_End p l e R s m args below meth c Q D cA ra HB mi c0 s0 (.inl E, (h.1, h.2.1.map (· + 1), h.2.2.1 + 1, h.2.2.2 + 6))) : W p l e R s m args below meth c H locs cells slots Q (F0 m pc lsR []) := by
  refine z_Wsz fun hsz => ?_
  obtain ⟨q, hlk, rfl, d3, dd⟩ := z_th_spec hth
  have hown := z_own_spec hF
  have hF' := hF
  obtain ⟨hx, ⟨q9, hq9, -, -, -, -, hext, -⟩, hts, hst, hlk9⟩ := hF'
  have hm := z_lookup_mem hlk
  have ok := List.all_eq_true.mp z_ths_ok _ hm
  simp only [z_thok, Bool.and_eq_true] at ok
  obtain ⟨⟨⟨⟨o1, o2⟩, o3⟩, o4⟩, o5⟩ := ok
  have hex := z_placesG z_ex0 z_exg
  have hw : ∀ w ∈ z_exw ((z_own mi, idx), q), w.before args s = true := fun w hw => hts _ (hex w (List.mem_flatMap.mpr ⟨_, hm, hw⟩))
  have hat : ∀ w ∈ vx_atS (z_own mi) q.2.1 q.1 z_nms, w.before args s = true := by
    intro w hw9
    by_cases gw : goodWord w = true
    · have h1 := List.all_eq_true.mp o3 w (List.mem_filter.mpr ⟨hw9, gw⟩)
      exact hts w (List.mem_filter.mpr ⟨by simpa using h1, gw⟩)
    · have h1 := List.all_eq_true.mp o4 w (List.mem_filter.mpr ⟨hw9, by simpa using gw⟩)
      simp only [Bool.and_eq_true, decide_eq_true_eq] at h1
      have h2 := List.all_eq_true.mp o5 w (List.mem_cons_of_mem _ (List.mem_cons_of_mem _ hw9))
      simp only [vx_ot, Bool.or_eq_true] at h2
      exact va_Nw.use (h2.resolve_right gw) (hE.2.2.2.2.2.1 w (List.mem_filter.mpr h1))
  have hkept : ∀ a : Nat, a < HB.size → ¬ z_A HB a → s.heap[a]? = HB[a]? := fun a ha _ => hB0.2 a ha
  have hSva : va_S (z_A HB) s.heap H locs := ⟨hsz, fun y h1 h2 => by
    have h3 : y < HB.size := Nat.not_le.mp h2
    rw [hr.2.2.2 y h3, hB0.2 y h3], hS⟩
  have hout : ∀ x ∈ c.exceptionTable.toList, ∀ pc9, covers x pc9 = false := by
    rw [hext]
    simp only [z_hds, hq9] at hh
    rw [hh]
    intro x hx; cases hx
  obtain ⟨Qc, XC, mc, ms, free, rfl, e1, e2, e3, e4⟩ := hend.2 q.1 rfl
  have xx : ∀ t : State, s.vm.Alike t.vm → t.heap.size = H.size + 1 → (∀ y : Nat, y < H.size → t.heap[y]? = H[y]?) → XC q.1 s t := fun t h1 h2 h3 => e1 t h1 (hr.lost h2 h3)
  have ff : ∀ z ∈ locs, free z.base := fun z hz => e2 _ (hS z hz)
  dsimp only at e3 e4
  have gg : ∀ w ∈ Cond.classLink (z_own mi) idx q.1 :: Cond.initialized q.1 :: vx_atS (z_own mi) q.2.1 q.1 z_nms, vx_ot w = true := fun w hw => List.all_eq_true.mp o5 w hw
  rcases dd with ⟨is, tx, d4, htx, d6, d9⟩ | ⟨is, tx, d4, htx, d7, d10⟩
  · obtain ⟨sa, hsa⟩ := hE.2.2.2.1 _ (z_lookup_mem htx)
    exact vx_throwS hx rfl hst hown o1 (fun n hn => List.all_eq_true.mp o2 n hn) (hw _ List.mem_cons_self) (hw _ (List.mem_cons_of_mem _ List.mem_cons_self)) hsa hat gg (hE.2.1.kept hkept) (hE.2.2.1.kept hkept) hSva hml hdg (z_ins_spec hF d3) (z_ins_spec hF d4) (z_ins_spec hF d6) (z_ins_spec hF d9) (fun x hx => hout x hx _)
      (by show 2 + 3 < _; omega) (by show 0 + (13 * (2 + 1) + 43) ≤ _; omega) (by omega) (by omega) hlk9 xx ff (by omega) (by omega)
  · obtain ⟨sa, hsa⟩ := hE.2.2.2.1 _ (z_lookup_mem htx)
    exact vx_throwSW hx rfl hst hown o1 (fun n hn => List.all_eq_true.mp o2 n hn) (hw _ List.mem_cons_self) (hw _ (List.mem_cons_of_mem _ List.mem_cons_self)) hsa hat gg (hE.2.1.kept hkept) (hE.2.2.1.kept hkept) hSva hml hdg (z_ins_spec hF d3) (z_ins_spec hF d4) (z_ins_spec hF d7) (z_ins_spec hF d10) (fun x hx => hout x hx _)
      (by show 2 + 3 < _; omega) (by show 0 + (13 * (2 + 1) + 43) ≤ _; omega) (by omega) (by omega) hlk9 xx ff (by omega) (by omega)
/-- the handler that takes E, as a row of the table, and the rows ahead of it -/
theorem z_hdF_spec (hE : z_EV D cA ra adV HB g s) {own E : String} (hts : ∀ w ∈ z_tbl, w.before args s = true) : ∀ (hs : List (Nat × Nat × Nat × Nat)) (t : Nat), z_hdF own pc E hs = some t → ∃ (pre suf : List (Nat × Nat × Nat × Nat)) (x : Nat × Nat × Nat × Nat), hs = pre ++ x :: suf ∧ x.2.2.1 = t ∧ (x.1 ≤ pc ∧ pc < x.2.1) ∧ (∃ pp, z_lookup z_hcs (own, x.2.2.2) = some (E, pp)) ∧
    ∀ z ∈ pre, ¬ (z.1 ≤ pc ∧ pc < z.2.1) ∨ ∃ nm pp, z_lookup z_hcs (own, z.2.2.2) = some (nm, pp) ∧ va_Nc E nm s
  | [], t, h1 => by cases h1
  | (a, b, t', ci) :: r, t, h1 => by
    unfold z_hdF at h1
    split at h1
    · next hab =>
      split at h1
      · next nm pp hlk =>
        split at h1
        · next e9 =>
          cases h1
          subst e9
          exact ⟨[], r, (a, b, t', ci), rfl, rfl, hab, ⟨pp, hlk⟩, fun z hz => by cases hz⟩
        · next ne =>
          split at h1
          · next hin =>
            obtain ⟨pre, suf, x, rfl, h2, h3, h4, h5⟩ := z_hdF_spec hE hts r t h1
            refine ⟨(a, b, t', ci) :: pre, suf, x, rfl, h2, h3, h4, fun z hz => ?_⟩
            rcases List.mem_cons.mp hz with rfl | hz
            · exact Or.inr ⟨nm, pp, hlk, hE.2.2.2.2.2.2.1 E hin.1 nm hin.2 (Ne.symm ne)⟩
            · exact h5 z hz
          · cases h1
      · cases h1
    · next hab =>
      obtain ⟨pre, suf, x, rfl, h2, h3, h4, h5⟩ := z_hdF_spec hE hts r t h1
      refine ⟨(a, b, t', ci) :: pre, suf, x, rfl, h2, h3, h4, fun z hz => ?_⟩
      rcases List.mem_cons.mp hz with rfl | hz
      · exact Or.inl hab
      · exact h5 z hz
theorem z_hc_all {own E : String} {ci : Nat} {pp : Nat × Nat} (hlk : z_lookup z_hcs (own, ci) = some (E, pp)) : ci ≠ 0 ∧ Cond.classLink own ci E ∈ lw_tbl ∧ Cond.castable E E ∈ lw_tbl := by
  have hm := z_lookup_mem hlk
  have h1 := List.all_eq_true.mp z_hcs_ok _ hm
  have h2 := z_places z_hc0
  refine ⟨by simpa [z_hcok] using h1, h2 _ (List.mem_flatMap.mpr ⟨_, hm, List.mem_cons_self⟩), h2 _ (List.mem_flatMap.mpr ⟨_, hm, List.mem_cons_of_mem _ List.mem_cons_self⟩)⟩
set_option maxHeartbeats 1000000 in
theorem z_catchS {E : String} {ce : Cell} {q : Addr} {t : Nat} {rest : List Value} (hF : z_FR mi p l s m args meth c) (hE : z_EV D cA ra adV HB g s) (hh : z_hd mi pc E ls = some (t, ls')) (hl : z_LR ra lsR ls) (hcell : H[q]? = some ce) (hv : ce.vm = .none) (hcl : s.vm.findClass E = some ce.cls)
    (kk : ∀ lsR', z_LR ra lsR' ls' → W p l e R s m args below meth c H locs cells slots Q (F0 m t lsR' [])) : vx_W p l e R s m args below meth c H locs cells slots Q (F0 m pc lsR rest) q := by
  have hown := z_own_spec hF
  have hF' := hF
  obtain ⟨hx, ⟨q9, hq9, -, -, -, -, hext, -⟩, hts, hst, hlk9⟩ := hF'
  unfold z_hd at hh
  split at hh
  · next t0 ht0 =>
    obtain ⟨pre, suf, x, e1, e2, e3, ⟨pp, e4⟩, e5⟩ := z_hdF_spec (D := D) (cA := cA) (ra := ra) (adV := adV) (HB := HB) (g := g) (args := args) hE hts _ _ ht0
    have hsplit : c.exceptionTable.toList = (pre.map fun q => (⟨q.1, q.2.1, q.2.2.1, q.2.2.2⟩ : ExceptionTableEntry)) ++ (⟨x.1, x.2.1, x.2.2.1, x.2.2.2⟩ : ExceptionTableEntry) :: (suf.map fun q => (⟨q.1, q.2.1, q.2.2.1, q.2.2.2⟩ : ExceptionTableEntry)) := by
      rw [hext]
      simp only [z_hds, hq9] at e1
      rw [e1]
      simp [tableOf]
    obtain ⟨c1, c2, c3⟩ := z_hc_all e4
    have good : ∀ own ci E, Cond.classLink own ci E ∈ lw_tbl → (Cond.classLink own ci E).before args s = true := fun own ci E hm => hts _ (List.mem_filter.mpr ⟨hm, rfl⟩)
    have hcast : (Cond.castable E E).before args s = true := va_Nw.use rfl (hE.2.2.2.2.2.1 _ (List.mem_filter.mpr ⟨c3, rfl⟩))
    refine vx_catch hown _ _ _ hsplit (fun z hz => ?_) (by simp [covers, e3.1, e3.2]) c1 (good _ _ _ c2) hcast hcell hv hcl ?_
    · obtain ⟨z0, hz0, rfl⟩ := List.mem_map.mp hz
      rcases e5 z0 hz0 with h1 | ⟨nm, pp2, h1, h2⟩
      · refine Or.inl ?_
        by_cases a1 : z0.1 ≤ pc
        · by_cases a2 : pc < z0.2.1
          · exact absurd ⟨a1, a2⟩ h1
          · simp [covers, a2]
        · simp [covers, a1]
      · obtain ⟨d1, d2, -⟩ := z_hc_all h1
        exact Or.inr ⟨d1, nm, good _ _ _ d2, h2⟩
    · dsimp only
      rw [e2]
      split at hh
      · next k hk =>
        split at hh
        · next hlt =>
          simp only [Option.some.injEq, Prod.mk.injEq] at hh
          obtain ⟨rfl, rfl⟩ := hh
          exact lv_astore_n hx rfl (z_ins_spec hF hk) rfl hl.1 hlt rfl fun ls2 h2 => kk _ (hl.set hlt rfl (fun hz => absurd rfl hz) h2)
        · cases hh
      · next k hk =>
        split at hh
        · next hlt =>
          simp only [Option.some.injEq, Prod.mk.injEq] at hh
          obtain ⟨rfl, rfl⟩ := hh
          exact lv_astore hx rfl (z_ins_spec hF hk) hl.1 hlt rfl fun ls2 h2 => kk _ (hl.set hlt rfl (fun hz => absurd rfl hz) h2)
        · cases hh
      · cases hh
  · cases hh
end ZSO
