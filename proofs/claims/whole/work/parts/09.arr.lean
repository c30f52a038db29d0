/-! arrays, new objects, constants, the primitives -/
section ZAR
variable {p : Program} {l : Launch} {e : Env} {R : Room} {s : State} {m : MethodId} {args : Array Value} {below : List Frame} {meth : Method} {c : Code} {H : Heap} {locs : List Loc} {cells slots : Nat} {Q : State → Prop}
variable {D : va_G} {cA : FieldType → ClassId} {ra adV : Nat → Nat} {HB : Heap} {g : z_G} {mi pc pc' c0 s0 n : Nat} {lsR : Array Slot} {ls ls' st st' : List Value} {h h' : z_H} {i : Instr}
theorem z_bnd {locs : List Loc} {a k : Nat} (hS : ∀ q ∈ locs, HB.size ≤ q.base) (ha : HB.size ≤ a) : ∀ q ∈ locs ++ [⟨a, k⟩], HB.size ≤ q.base := by
  intro q hq
  rcases List.mem_append.mp hq with z | z
  · exact hS q z
  · rw [List.mem_singleton.mp z]; exact ha
theorem z_stI {a : Nat} {cA0 : ClassId} {n : Nat} {f : Nat → Int32} {j : Nat} {x : Int32} {H1 : Heap} {cl : List vw_C} (e : H1[a]? = some ((vp_cell cA0 (n, .inl f)).setSlot j (.int x))) : va_at D cl (a, .inl (cA0, n, .inl (upd f j x))) H1 := by
  show H1[a]? = some (vp_cell _ _)
  rw [e]
  rw [vp_cell_i, vp_cell_i, arrV_store]
  congr 2
  funext q
  by_cases hq : q = j
  · subst hq
    simp [updV, upd]
  · simp [updV, upd, hq]
theorem z_stL {a : Nat} {cA0 : ClassId} {n : Nat} {f : Nat → Int64} {j : Nat} {x : Int64} {H1 : Heap} {cl : List vw_C} (e : H1[a]? = some ((vp_cell cA0 (n, .inr (.inl f))).setSlot j (.long x))) : va_at D cl (a, .inl (cA0, n, .inr (.inl (vp_updL f j x)))) H1 := by
  show H1[a]? = some (vp_cell _ _)
  rw [e]
  rw [vp_cell_l, vp_cell_l, arrV_store]
  congr 2
  funext q
  by_cases hq : q = j
  · subst hq
    simp [updV, vp_updL]
  · simp [updV, vp_updL, hq]
theorem z_nar_b (x : Int32) : narrow .byte (.int x) = .int (vp_nar .byte x) := rfl
theorem z_nar_z (x : Int32) : narrow .boolean (.int x) = .int (vp_nar .boolean x) := rfl
set_option maxHeartbeats 2000000 in
theorem z_S_iaload (hF : z_FR mi p l s m args meth c) (hE : z_EV D cA ra adV HB g s) (hdg : decode c.code pc = .ok (.iaload, n)) (hn : z_len (.iaload) = 0 ∨ n = z_len (.iaload)) (hop : z_op g mi pc (.iaload) ls st h = some (.inl (.inl (pc', ls', st', h'))))
    (hr : z_HR D cA HB h H) (hl : z_LR ra lsR ls) (hS : ∀ q ∈ locs, HB.size ≤ q.base) (hc : cells + c0 = h.2.2.1) (hs : slots + s0 = h.2.2.2)
    (kk : z_KK p l e R s m args below meth c Q D cA ra HB c0 s0 pc' ls' st' h') : W p l e R s m args below meth c H locs cells slots Q (F0 m pc lsR (st.map (z_rv ra))) := by
  have hn : n = 1 := by simpa [z_len] using hn
  subst hn
  obtain ⟨hx, -⟩ := hF
  simp only [z_op] at hop
  split at hop
  · next j a r =>
    obtain ⟨v, hv, hop⟩ := Option.bind_eq_some_iff.mp hop
    simp only [z_go, Option.some.injEq, Sum.inl.injEq, Prod.mk.injEq] at hop
    obtain ⟨rfl, rfl, rfl, rfl⟩ := hop
    simp only [z_rd] at hv
    split at hv
    · split at hv
      · next hi =>
        cases hv
        obtain ⟨scr, q1, q2, q3, q4, q5⟩ := hE.2.2.2.2.2.2.2.2.2.1
        have hin := z_idx_spec hi
        have hlt : j.toNatClampNeg < g.1 := Nat.not_le.mp fun q => hin (Or.inr q)
        have hb1 : ra 99 < HB.size := (Array.getElem?_eq_some_iff.mp q1).1
        exact W.iald (v := .int (g.2 j.toNatClampNeg)) hx rfl (by rw [hr.2.2.2 _ hb1]; exact q1) q2 q3 (by rw [q4]; exact hin) (q5 _ hlt) rfl rfl hdg (kk _ _ _ _ _ hr hl hS hc hs)
      · cases hv
    · next a =>
      split at hv
      · next ty k f hh =>
        split at hv
        · next hi =>
          have hin := z_idx_spec hi
          have hP := hr.one hh
          split at hv
          · cases hv
            exact va_iald hx rfl hE.1 hP 0 0 rfl (z_tyat hE.1 0 rfl) hin hdg (kk _ _ _ _ _ hr hl hS hc hs)
          · rename_i q9; cases q9
          · rename_i q9; cases q9
          · rename_i q9; cases q9
          · rename_i q9; cases q9
          · cases hv
        · cases hv
      · cases hv
    · cases hv
  · cases hop
set_option maxHeartbeats 2000000 in
theorem z_S_baload (hF : z_FR mi p l s m args meth c) (hE : z_EV D cA ra adV HB g s) (hdg : decode c.code pc = .ok (.baload, n)) (hn : z_len (.baload) = 0 ∨ n = z_len (.baload)) (hop : z_op g mi pc (.baload) ls st h = some (.inl (.inl (pc', ls', st', h'))))
    (hr : z_HR D cA HB h H) (hl : z_LR ra lsR ls) (hS : ∀ q ∈ locs, HB.size ≤ q.base) (hc : cells + c0 = h.2.2.1) (hs : slots + s0 = h.2.2.2)
    (kk : z_KK p l e R s m args below meth c Q D cA ra HB c0 s0 pc' ls' st' h') : W p l e R s m args below meth c H locs cells slots Q (F0 m pc lsR (st.map (z_rv ra))) := by
  have hn : n = 1 := by simpa [z_len] using hn
  subst hn
  obtain ⟨hx, -⟩ := hF
  simp only [z_op] at hop
  split at hop
  · next j a r =>
    obtain ⟨v, hv, hop⟩ := Option.bind_eq_some_iff.mp hop
    simp only [z_go, Option.some.injEq, Sum.inl.injEq, Prod.mk.injEq] at hop
    obtain ⟨rfl, rfl, rfl, rfl⟩ := hop
    simp only [z_rd] at hv
    split at hv
    · cases hv
    · next a =>
      split at hv
      · next ty k f hh =>
        split at hv
        · next hi =>
          have hin := z_idx_spec hi
          have hP := hr.one hh
          split at hv
          · rename_i q9; cases q9
          · cases hv
            exact va_bald hx rfl hE.1 hP 0 2 rfl (z_tyat hE.1 2 rfl) hin hdg (kk _ _ _ _ _ hr hl hS hc hs)
          · cases hv
            exact va_zald hx rfl hE.1 hP 0 1 rfl (z_tyat hE.1 1 rfl) hin hdg (kk _ _ _ _ _ hr hl hS hc hs)
          · rename_i q9; cases q9
          · rename_i q9; cases q9
          · cases hv
        · cases hv
      · cases hv
    · cases hv
  · cases hop
set_option maxHeartbeats 2000000 in
theorem z_S_laload (hF : z_FR mi p l s m args meth c) (hE : z_EV D cA ra adV HB g s) (hdg : decode c.code pc = .ok (.laload, n)) (hn : z_len (.laload) = 0 ∨ n = z_len (.laload)) (hop : z_op g mi pc (.laload) ls st h = some (.inl (.inl (pc', ls', st', h'))))
    (hr : z_HR D cA HB h H) (hl : z_LR ra lsR ls) (hS : ∀ q ∈ locs, HB.size ≤ q.base) (hc : cells + c0 = h.2.2.1) (hs : slots + s0 = h.2.2.2)
    (kk : z_KK p l e R s m args below meth c Q D cA ra HB c0 s0 pc' ls' st' h') : W p l e R s m args below meth c H locs cells slots Q (F0 m pc lsR (st.map (z_rv ra))) := by
  have hn : n = 1 := by simpa [z_len] using hn
  subst hn
  obtain ⟨hx, -⟩ := hF
  simp only [z_op] at hop
  split at hop
  · next j a r =>
    obtain ⟨v, hv, hop⟩ := Option.bind_eq_some_iff.mp hop
    simp only [z_go, Option.some.injEq, Sum.inl.injEq, Prod.mk.injEq] at hop
    obtain ⟨rfl, rfl, rfl, rfl⟩ := hop
    simp only [z_rd] at hv
    split at hv
    · cases hv
    · next a =>
      split at hv
      · next ty k f hh =>
        split at hv
        · next hi =>
          have hin := z_idx_spec hi
          have hP := hr.one hh
          split at hv
          · rename_i q9; cases q9
          · rename_i q9; cases q9
          · rename_i q9; cases q9
          · cases hv
            exact va_lald hx rfl hE.1 hP 0 3 rfl (z_tyat hE.1 3 rfl) hin hdg (kk _ _ _ _ _ hr hl hS hc hs)
          · rename_i q9; cases q9
          · cases hv
        · cases hv
      · cases hv
    · cases hv
  · cases hop
set_option maxHeartbeats 2000000 in
theorem z_S_aaload (hF : z_FR mi p l s m args meth c) (hE : z_EV D cA ra adV HB g s) (hdg : decode c.code pc = .ok (.aaload, n)) (hn : z_len (.aaload) = 0 ∨ n = z_len (.aaload)) (hop : z_op g mi pc (.aaload) ls st h = some (.inl (.inl (pc', ls', st', h'))))
    (hr : z_HR D cA HB h H) (hl : z_LR ra lsR ls) (hS : ∀ q ∈ locs, HB.size ≤ q.base) (hc : cells + c0 = h.2.2.1) (hs : slots + s0 = h.2.2.2)
    (kk : z_KK p l e R s m args below meth c Q D cA ra HB c0 s0 pc' ls' st' h') : W p l e R s m args below meth c H locs cells slots Q (F0 m pc lsR (st.map (z_rv ra))) := by
  have hn : n = 1 := by simpa [z_len] using hn
  subst hn
  obtain ⟨hx, -⟩ := hF
  simp only [z_op] at hop
  split at hop
  · next j a r =>
    obtain ⟨v, hv, hop⟩ := Option.bind_eq_some_iff.mp hop
    simp only [z_go, Option.some.injEq, Sum.inl.injEq, Prod.mk.injEq] at hop
    obtain ⟨rfl, rfl, rfl, rfl⟩ := hop
    simp only [z_rd] at hv
    split at hv
    · cases hv
    · next a =>
      split at hv
      · next ty k f hh =>
        split at hv
        · next hi =>
          have hin := z_idx_spec hi
          have hP := hr.one hh
          split at hv
          · rename_i q9; cases q9
          · rename_i q9; cases q9
          · rename_i q9; cases q9
          · rename_i q9; cases q9
          · split at hv
            · next r9 hr9 =>
              cases hv
              have hlt : j.toNatClampNeg < k := Nat.not_le.mp fun q => hin (Or.inr q)
              have hv9 : (arrV (cA (.array .int)) k (fun j => va_rf (‹Nat → Option Nat› j))).slots[j.toNatClampNeg]? = some (.ref r9) := by
                rw [arrV_read _ _ hlt, hr9]; rfl
              exact W.aald (v := .ref r9) hx rfl (hP 0 _ rfl) ((hE.1.2 4 _ (z_tyat hE.1 4 rfl)).1 k _) rfl (fun q => by cases q) (by show ¬ (j < 0 ∨ (arrV _ _ _).slots.size ≤ _); rw [arrV_size]; exact hin) hv9 rfl rfl hdg (kk _ _ _ _ _ hr hl hS hc hs)
            · cases hv
          · cases hv
        · cases hv
      · cases hv
    · cases hv
  · cases hop
set_option maxHeartbeats 2000000 in
theorem z_S_iastore (hF : z_FR mi p l s m args meth c) (hE : z_EV D cA ra adV HB g s) (hdg : decode c.code pc = .ok (.iastore, n)) (hn : z_len (.iastore) = 0 ∨ n = z_len (.iastore)) (hop : z_op g mi pc (.iastore) ls st h = some (.inl (.inl (pc', ls', st', h'))))
    (hr : z_HR D cA HB h H) (hl : z_LR ra lsR ls) (hS : ∀ q ∈ locs, HB.size ≤ q.base) (hc : cells + c0 = h.2.2.1) (hs : slots + s0 = h.2.2.2)
    (kk : z_KK p l e R s m args below meth c Q D cA ra HB c0 s0 pc' ls' st' h') : W p l e R s m args below meth c H locs cells slots Q (F0 m pc lsR (st.map (z_rv ra))) := by
  have hn : n = 1 := by simpa [z_len] using hn
  subst hn
  obtain ⟨hx, -⟩ := hF
  simp only [z_op] at hop
  split at hop
  · next v j a r =>
    obtain ⟨h9, hv, hop⟩ := Option.bind_eq_some_iff.mp hop
    simp only [z_go, Option.some.injEq, Sum.inl.injEq, Prod.mk.injEq] at hop
    obtain ⟨rfl, rfl, rfl, rfl⟩ := hop
    simp only [z_wr] at hv
    split at hv
    · next ty k f hh =>
      have hb := (hr.1 a _ hh).1
      split at hv
      · next hi =>
        have hin := z_idx_spec hi
        have hP := hr.one hh
        split at hv
        · cases hv
          exact W.iast hx rfl (hP 0 _ rfl) ((hE.1.2 0 _ (z_tyat hE.1 0 rfl)).1 k (fun j => .int (‹Nat → Int32› j))) (fun q => by cases q) (by show ¬ (j < 0 ∨ (arrV _ _ _).slots.size ≤ _); rw [arrV_size]; exact hin) rfl rfl hdg fun H1 e1 e2 e3 =>
            kk _ _ _ _ _ (hr.up hh e2 e3 (z_stI e1)) hl (z_bnd hS hb) hc hs
        · rename_i q9; cases q9
        · rename_i q9; cases q9
        · rename_i q9; cases q9
        · cases hv
      · cases hv
    · cases hv
  · cases hop
set_option maxHeartbeats 2000000 in
theorem z_S_bastore (hF : z_FR mi p l s m args meth c) (hE : z_EV D cA ra adV HB g s) (hdg : decode c.code pc = .ok (.bastore, n)) (hn : z_len (.bastore) = 0 ∨ n = z_len (.bastore)) (hop : z_op g mi pc (.bastore) ls st h = some (.inl (.inl (pc', ls', st', h'))))
    (hr : z_HR D cA HB h H) (hl : z_LR ra lsR ls) (hS : ∀ q ∈ locs, HB.size ≤ q.base) (hc : cells + c0 = h.2.2.1) (hs : slots + s0 = h.2.2.2)
    (kk : z_KK p l e R s m args below meth c Q D cA ra HB c0 s0 pc' ls' st' h') : W p l e R s m args below meth c H locs cells slots Q (F0 m pc lsR (st.map (z_rv ra))) := by
  have hn : n = 1 := by simpa [z_len] using hn
  subst hn
  obtain ⟨hx, -⟩ := hF
  simp only [z_op] at hop
  split at hop
  · next v j a r =>
    obtain ⟨h9, hv, hop⟩ := Option.bind_eq_some_iff.mp hop
    simp only [z_go, Option.some.injEq, Sum.inl.injEq, Prod.mk.injEq] at hop
    obtain ⟨rfl, rfl, rfl, rfl⟩ := hop
    simp only [z_wr] at hv
    split at hv
    · next ty k f hh =>
      have hb := (hr.1 a _ hh).1
      split at hv
      · next hi =>
        have hin := z_idx_spec hi
        have hP := hr.one hh
        split at hv
        · rename_i q9; cases q9
        · cases hv
          exact W.bast hx rfl (hP 0 _ rfl) ((hE.1.2 2 _ (z_tyat hE.1 2 rfl)).1 k (fun j => .int (‹Nat → Int32› j))) (fun q => by cases q) (by show ¬ (j < 0 ∨ (arrV _ _ _).slots.size ≤ _); rw [arrV_size]; exact hin) rfl rfl hdg fun H1 e1 e2 e3 =>
            kk _ _ _ _ _ (hr.up hh e2 e3 (z_stI e1)) hl (z_bnd hS hb) hc hs
        · cases hv
          exact W.zast hx rfl (hP 0 _ rfl) ((hE.1.2 1 _ (z_tyat hE.1 1 rfl)).1 k (fun j => .int (‹Nat → Int32› j))) (fun q => by cases q) (by show ¬ (j < 0 ∨ (arrV _ _ _).slots.size ≤ _); rw [arrV_size]; exact hin) rfl rfl hdg fun H1 e1 e2 e3 =>
            kk _ _ _ _ _ (hr.up hh e2 e3 (z_stI e1)) hl (z_bnd hS hb) hc hs
        · rename_i q9; cases q9
        · cases hv
      · cases hv
    · cases hv
  · cases hop
set_option maxHeartbeats 2000000 in
theorem z_S_lastore (hF : z_FR mi p l s m args meth c) (hE : z_EV D cA ra adV HB g s) (hdg : decode c.code pc = .ok (.lastore, n)) (hn : z_len (.lastore) = 0 ∨ n = z_len (.lastore)) (hop : z_op g mi pc (.lastore) ls st h = some (.inl (.inl (pc', ls', st', h'))))
    (hr : z_HR D cA HB h H) (hl : z_LR ra lsR ls) (hS : ∀ q ∈ locs, HB.size ≤ q.base) (hc : cells + c0 = h.2.2.1) (hs : slots + s0 = h.2.2.2)
    (kk : z_KK p l e R s m args below meth c Q D cA ra HB c0 s0 pc' ls' st' h') : W p l e R s m args below meth c H locs cells slots Q (F0 m pc lsR (st.map (z_rv ra))) := by
  have hn : n = 1 := by simpa [z_len] using hn
  subst hn
  obtain ⟨hx, -⟩ := hF
  simp only [z_op] at hop
  split at hop
  · next v j a r =>
    obtain ⟨h9, hv, hop⟩ := Option.bind_eq_some_iff.mp hop
    simp only [z_go, Option.some.injEq, Sum.inl.injEq, Prod.mk.injEq] at hop
    obtain ⟨rfl, rfl, rfl, rfl⟩ := hop
    simp only [z_wr] at hv
    split at hv
    · next ty k f hh =>
      have hb := (hr.1 a _ hh).1
      split at hv
      · next hi =>
        have hin := z_idx_spec hi
        have hP := hr.one hh
        split at hv
        · rename_i q9; cases q9
        · rename_i q9; cases q9
        · rename_i q9; cases q9
        · cases hv
          exact W.last hx rfl (hP 0 _ rfl) ((hE.1.2 3 _ (z_tyat hE.1 3 rfl)).1 k (fun j => .long (‹Nat → Int64› j))) (fun q => by cases q) (by show ¬ (j < 0 ∨ (arrV _ _ _).slots.size ≤ _); rw [arrV_size]; exact hin) rfl rfl hdg fun H1 e1 e2 e3 =>
            kk _ _ _ _ _ (hr.up hh e2 e3 (z_stL e1)) hl (z_bnd hS hb) hc hs
        · cases hv
      · cases hv
    · cases hv
  · cases hop
set_option maxHeartbeats 2000000 in
theorem z_S_arraylength (hF : z_FR mi p l s m args meth c) (hE : z_EV D cA ra adV HB g s) (hdg : decode c.code pc = .ok (.arraylength, n)) (hn : z_len (.arraylength) = 0 ∨ n = z_len (.arraylength)) (hop : z_op g mi pc (.arraylength) ls st h = some (.inl (.inl (pc', ls', st', h'))))
    (hr : z_HR D cA HB h H) (hl : z_LR ra lsR ls) (hS : ∀ q ∈ locs, HB.size ≤ q.base) (hc : cells + c0 = h.2.2.1) (hs : slots + s0 = h.2.2.2)
    (kk : z_KK p l e R s m args below meth c Q D cA ra HB c0 s0 pc' ls' st' h') : W p l e R s m args below meth c H locs cells slots Q (F0 m pc lsR (st.map (z_rv ra))) := by
  have hn : n = 1 := by simpa [z_len] using hn
  subst hn
  obtain ⟨hx, -⟩ := hF
  simp only [z_op] at hop
  split at hop
  · simp only [z_go, Option.some.injEq, Sum.inl.injEq, Prod.mk.injEq] at hop
    obtain ⟨rfl, rfl, rfl, rfl⟩ := hop
    obtain ⟨scr, q1, q2, q3, q4, q5⟩ := hE.2.2.2.2.2.2.2.2.2.1
    have hb1 : ra 99 < HB.size := (Array.getElem?_eq_some_iff.mp q1).1
    exact W.alen (n := nI g.1) hx rfl (by rw [hr.2.2.2 _ hb1]; exact q1) q2 (by rw [q4]; rfl) rfl rfl hdg (kk _ _ _ _ _ hr hl hS hc hs)
  · cases hop
theorem z_HR.push {H H' : Heap} {q k : Nat} {x : z_C} (hr : z_HR D cA HB h H) (hq : h.2.1 = some q) (hz : H'.size = q + 1) (ho : ∀ y, y < q → H'[y]? = H[y]?) (he : va_at D vwCl (q, z_cv cA x) H') : z_HR D cA HB (z_up h.1 q x, some (q + 1), k, n) H' := by
  obtain ⟨h1, h2, h3, h4⟩ := hr
  have hs := h2 q hq
  refine ⟨fun a cx hx => ?_, fun y hy => by cases hy; exact hz, by rw [hz]; omega, fun y hy => by rw [ho y (by omega)]; exact h4 y hy⟩
  by_cases e : a = q
  · subst e
    simp [z_up] at hx
    subst hx
    exact ⟨by omega, he⟩
  · simp [z_up, e] at hx
    obtain ⟨g1, g2⟩ := h1 a cx hx
    exact ⟨g1, g2.kept (ho a (by have := g2.lt; omega))⟩
set_option maxHeartbeats 2000000 in
theorem z_S_newarray {t : ArrayType} (hF : z_FR mi p l s m args meth c) (hE : z_EV D cA ra adV HB g s) (hdg : decode c.code pc = .ok (.newarray t, n)) (hn : z_len (.newarray t) = 0 ∨ n = z_len (.newarray t)) (hop : z_op g mi pc (.newarray t) ls st h = some (.inl (.inl (pc', ls', st', h'))))
    (hr : z_HR D cA HB h H) (hl : z_LR ra lsR ls) (hS : ∀ q ∈ locs, HB.size ≤ q.base) (hc : cells + c0 = h.2.2.1) (hs : slots + s0 = h.2.2.2) (hcR : h'.2.2.1 ≤ R.cells + c0) (hsR : h'.2.2.2 ≤ R.slots + s0) (hRf : 10 ≤ R.frames) (hRl : 600 ≤ R.locals)
    (kk : z_KK p l e R s m args below meth c Q D cA ra HB c0 s0 pc' ls' st' h') : W p l e R s m args below meth c H locs cells slots Q (F0 m pc lsR (st.map (z_rv ra))) := by
  have hn : n = 2 := by simpa [z_len] using hn
  subst hn
  obtain ⟨hx, -, hts, -⟩ := hF
  simp only [z_op] at hop
  split at hop
  · next k r =>
    obtain ⟨⟨q, h9⟩, hv, hop⟩ := Option.bind_eq_some_iff.mp hop
    simp only [z_go, Option.some.injEq, Sum.inl.injEq, Prod.mk.injEq] at hop
    obtain ⟨rfl, rfl, rfl, rfl⟩ := hop
    simp only [z_na] at hv
    split at hv
    · next ty f q ha hq =>
      split at hv
      · next hk =>
        simp only [Option.some.injEq, Prod.mk.injEq] at hv
        obtain ⟨rfl, rfl⟩ := hv
        have hk0 : ¬ k < 0 := Int32.not_lt.mpr hk.1
        have hk1 : k.toNatClampNeg ≤ 1000 := by
          have := Int32.le_iff_toInt_le.mp hk.2
          have e1 : (1000 : Int32).toInt = 1000 := by decide
          rw [e1] at this
          show k.toInt.toNat ≤ 1000
          omega
        have hsz := hr.2.1 q hq
        dsimp only at hcR hsR
        have fin : ∀ (tt : FieldType) (j : Nat) (x : vp_A), newarray.typeOf t = tt → z_tyl[j]? = some tt → (∀ C, tt ≠ .object C) → (Cond.arrayClass tt).before args s = true → componentBytes tt ≤ 8 → (∀ cx : ClassId, vp_cell cx x = arrV cx k.toNatClampNeg (fun _ => defaultValue tt)) →
            z_KK p l e R s m args below meth c Q D cA ra HB c0 s0 (pc + 2) ls (.ref q :: r) (z_up h.1 q (.inl (tt, x)), some (q + 1), h.2.2.1 + 1, h.2.2.2 + k.toNatClampNeg) → W p l e R s m args below meth c H locs cells slots Q (F0 m pc lsR ((Value.int k :: r).map (z_rv ra))) := by
          intro tt j x htt hj hno hac hby hcell k9
          subst htt
          have hra := (hE.1.2 j _ (z_tyat hE.1 j hj)).2
          refine va_newaK hx rfl hac rfl hdg rfl hk0 rfl (by have := Nat.mul_le_mul hk1 hby; omega) (by omega) (by omega) hsz fun H1 cX e1 z1 o1 hAr hNm => ?_
          have hcx : cX = cA (newarray.typeOf t) := by
            cases t <;> (first | exact absurd rfl (hno _) | exact Option.some.inj (hNm.symm.trans hra))
          subst hcx
          refine k9 _ _ _ _ _ (hr.push hq z1 o1 ?_) hl hS (by show cells + 1 + c0 = h.2.2.1 + 1; omega) (by show slots + k.toNatClampNeg + s0 = h.2.2.2 + k.toNatClampNeg; omega)
          show H1[q]? = some (vp_cell _ _)
          rw [hcell]
          exact e1
        have hacs := fun j hj => z_placesG z_ac0 z_acg (Cond.arrayClass j) (List.mem_map.mpr hj)
        cases t <;> simp only [z_arr0] at ha <;> (try (cases ha; done)) <;> (simp only [Option.some.injEq, Prod.mk.injEq] at ha; obtain ⟨rfl, rfl⟩ := ha)
        · exact fin .boolean 1 _ rfl rfl (fun _ q => by cases q) (hts _ (hacs _ ⟨_, List.mem_of_getElem? (i := 1) rfl, rfl⟩)) (by decide) (fun _ => rfl) kk
        · exact fin .byte 2 _ rfl rfl (fun _ q => by cases q) (hts _ (hacs _ ⟨_, List.mem_of_getElem? (i := 2) rfl, rfl⟩)) (by decide) (fun _ => rfl) kk
        · exact fin .int 0 _ rfl rfl (fun _ q => by cases q) (hts _ (hacs _ ⟨_, List.mem_of_getElem? (i := 0) rfl, rfl⟩)) (by decide) (fun _ => rfl) kk
        · exact fin .long 3 _ rfl rfl (fun _ q => by cases q) (hts _ (hacs _ ⟨_, List.mem_of_getElem? (i := 3) rfl, rfl⟩)) (by decide) (fun _ => rfl) kk
      · cases hv
    · cases hv
  · cases hop
set_option maxHeartbeats 2000000 in
theorem z_S_multianewarray {idx dims : Nat} (hF : z_FR mi p l s m args meth c) (hE : z_EV D cA ra adV HB g s) (hdg : decode c.code pc = .ok (.multianewarray idx dims, n)) (hn : z_len (.multianewarray idx dims) = 0 ∨ n = z_len (.multianewarray idx dims)) (hop : z_op g mi pc (.multianewarray idx dims) ls st h = some (.inl (.inl (pc', ls', st', h'))))
    (hr : z_HR D cA HB h H) (hl : z_LR ra lsR ls) (hS : ∀ q ∈ locs, HB.size ≤ q.base) (hc : cells + c0 = h.2.2.1) (hs : slots + s0 = h.2.2.2) (hcR : h'.2.2.1 ≤ R.cells + c0) (hsR : h'.2.2.2 ≤ R.slots + s0) (hRf : 10 ≤ R.frames) (hRl : 600 ≤ R.locals)
    (kk : z_KK p l e R s m args below meth c Q D cA ra HB c0 s0 pc' ls' st' h') : W p l e R s m args below meth c H locs cells slots Q (F0 m pc lsR (st.map (z_rv ra))) := by
  have hn : n = 4 := by simpa [z_len] using hn
  subst hn
  have hown := z_own_spec hF
  obtain ⟨hx, -, hts, -⟩ := hF
  simp only [z_op] at hop
  split at hop
  · next k nn r =>
    split at hop
    · next hd =>
      obtain ⟨hd, hlk⟩ := hd
      subst hd
      obtain ⟨wi, hlk⟩ := Option.isSome_iff_exists.mp hlk
      obtain ⟨⟨q, h9⟩, hv, hop⟩ := Option.bind_eq_some_iff.mp hop
      simp only [z_go, Option.some.injEq, Sum.inl.injEq, Prod.mk.injEq] at hop
      obtain ⟨rfl, rfl, rfl, rfl⟩ := hop
      simp only [z_ma] at hv
      split at hv
      · next q hq =>
        split at hv
        · next hk =>
          simp only [Option.some.injEq, Prod.mk.injEq] at hv
          obtain ⟨rfl, rfl⟩ := hv
          obtain ⟨⟨hn0, hn1⟩, hk0, hk1⟩ := hk
          have big : ∀ z : Int32, z ≤ 1000 → z.toNatClampNeg ≤ 1000 := by
            intro z hz
            have := Int32.le_iff_toInt_le.mp hz
            have e1 : (1000 : Int32).toInt = 1000 := by decide
            rw [e1] at this
            show z.toInt.toNat ≤ 1000
            omega
          have hn2 := big _ hn1
          have hk2 := big _ hk1
          have hsz := hr.2.1 q hq
          dsimp only at hcR hsR
          obtain ⟨cy, hcy, hfy⟩ := hE.2.2.2.2.2.2.2.2.1
          have hlink : (Cond.classLink (z_own mi) idx "[[I").before args s = true := hts _ (z_placesG z_ma0 z_mag _ (List.mem_map_of_mem (f := fun q : (String × Nat) × Nat => Cond.classLink q.1.1 q.1.2 "[[I") (z_lookup_mem hlk)))
          have hac : (Cond.arrayClass .int).before args s = true := hts _ (z_placesG z_ac0 z_acg _ (List.mem_map.mpr ⟨_, List.mem_of_getElem? (i := 0) rfl, rfl⟩))
          intro T hT Xs
          obtain ⟨vm₁, cX, comp, -, fA, fC, hO, -, X', step⟩ := Xs.multianewarray2F hx hown (ty := .int) hlink (va_AOA.use hE.2.2.2.2.2.2.2.1) hac (g := F0 m pc lsR (.int k :: .int nn :: r.map (z_rv ra))) rfl hdg rfl (Int32.not_lt.mpr hn0) (Int32.not_lt.mpr hk0) (by omega) (by show k.toNatClampNeg * 4 ≤ _; omega) (by omega) rfl rfl (by omega) (by omega)
          have ec : some cy = some comp := hfy.symm.trans fC
          cases ec
          have hcX : cX = cA (.array .int) := by
            have hra := (hE.1.2 4 _ (z_tyat hE.1 4 rfl)).2
            exact Option.some.inj (fA.symm.trans hra)
          subst hcX
          subst hcy
          generalize hFF : Jvm.Free.Multi.fill (T.setVm vm₁) (cA (.array .int)) (cA .int) nn.toNatClampNeg k.toNatClampNeg (defaultValue .int) nn.toNatClampNeg = F at X' step
          have hTh : (T.setVm vm₁).heap = H := hT
          obtain ⟨f1, f2, -, -⟩ := Jvm.Free.Multi.fill_facts (T.setVm vm₁) (cA (.array .int)) (cA .int) nn.toNatClampNeg k.toNatClampNeg (defaultValue .int) nn.toNatClampNeg
          rw [hFF, hTh] at f1 f2
          have hold : ∀ x : Nat, x < H.size → F.heap[x]? = H[x]? := fun x hx => by
            have := Jvm.Free.Multi.fill_old (T.setVm vm₁) (cA (.array .int)) (cA .int) nn.toNatClampNeg k.toNatClampNeg (defaultValue .int) (a := x) (by rw [hTh]; exact hx) nn.toNatClampNeg
            rw [hFF, hTh] at this
            exact this
          have hrow : ∀ j : Nat, j < nn.toNatClampNeg → F.heap[H.size + 1 + j]? = some (vp_cell (cA .int) (k.toNatClampNeg, .inl fun _ => 0)) := fun j hj => by
            have := Jvm.Free.Multi.fill_inner (T.setVm vm₁) (cA (.array .int)) (cA .int) nn.toNatClampNeg k.toNatClampNeg (defaultValue .int) nn.toNatClampNeg j hj
            rw [hFF, hTh] at this
            rw [this]
            exact congrArg some (arrV_new (cA .int) k.toNatClampNeg (.int 0))
          have hout : Jvm.Free.Multi.outerC (cA (.array .int)) nn.toNatClampNeg H.size nn.toNatClampNeg = vp_cell (cA (.array .int)) (nn.toNatClampNeg, .inr (.inr (.inr (.inr (fun i => if i < nn.toNatClampNeg then some (H.size + 1 + i) else none))))) := by
            rw [vp_cell_q]
            exact vr_outer (cA (.array .int)) nn.toNatClampNeg H.size nn.toNatClampNeg
          rw [hout] at f2
          have hH : z_HR D cA HB (fun j => if j = q then some (.inl (.array .int, nn.toNatClampNeg, .inr (.inr (.inr (.inr fun i => if i < nn.toNatClampNeg then some (q + 1 + i) else none)))))
              else if q < j ∧ j ≤ q + nn.toNatClampNeg then some (.inl (.int, k.toNatClampNeg, .inl fun _ => 0)) else h.1 j, some (q + 1 + nn.toNatClampNeg), h.2.2.1 + 1 + nn.toNatClampNeg, h.2.2.2 + nn.toNatClampNeg + nn.toNatClampNeg * k.toNatClampNeg) F.heap := by
            obtain ⟨h1, h2, h3, h4⟩ := hr
            rw [hsz] at f1 f2 hrow hold
            refine ⟨fun a cx hx => ?_, fun y hy => by cases hy; rw [f1], by rw [f1]; omega, fun y hy => by rw [hold y (by omega)]; exact h4 y hy⟩
            dsimp only at hx
            split at hx
            · next ea =>
              subst ea
              cases hx
              exact ⟨by omega, f2⟩
            · split at hx
              · next ea =>
                cases hx
                refine ⟨by omega, ?_⟩
                have e9 : a = q + 1 + (a - q - 1) := by omega
                show F.heap[a]? = _
                rw [e9]
                exact hrow _ (by omega)
              · obtain ⟨g1, g2⟩ := h1 a cx hx
                exact ⟨g1, g2.kept (hold a (by have := g2.lt; omega))⟩
          obtain ⟨t, a1, b1⟩ := kk F.heap locs (cells + 1 + nn.toNatClampNeg) (slots + nn.toNatClampNeg + nn.toNatClampNeg * k.toNatClampNeg) lsR hH hl hS (by show _ = h.2.2.1 + 1 + nn.toNatClampNeg; omega) (by show _ = h.2.2.2 + nn.toNatClampNeg + nn.toNatClampNeg * k.toNatClampNeg; omega) F rfl X'
          refine ⟨t, step t ?_, b1⟩
          have e1 : T.heap.size = q := by rw [hT]; exact hsz
          rw [e1]
          exact a1
        · cases hv
      · cases hv
    · cases hop
  · cases hop
end ZAR
