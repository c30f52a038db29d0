/-! arrays, new objects, constants, the primitives -/
section ZAR
variable {p : Program} {l : Launch} {e : Env} {R : Room} {s : State} {m : MethodId} {args : Array Value} {below : List Frame} {meth : Method} {c : Code} {H : Heap} {locs : List Loc} {cells slots : Nat} {Q : State → Prop}
variable {D : va_G} {cA : FieldType → ClassId} {ra adV : Nat → Nat} {HB : Heap} {g : z_G} {mi pc pc' c0 s0 n : Nat} {lsR : Array Slot} {ls ls' st st' : List Value} {h h' : z_H} {i : Instr}
theorem z_bnd {locs : List Loc} {a k : Nat} (hS : ∀ q ∈ locs, HB.size ≤ q.base) (ha : HB.size ≤ a) : ∀ q ∈ locs ++ [⟨a, k⟩], HB.size ≤ q.base := by
  intro q hq
  rcases List.mem_append.mp hq with z | z
  · exact hS q z
  · rw [List.mem_singleton.mp z]; exact ha
theorem z_stI {a : Nat} {cA0 : ClassId} {n : Nat} {f : Nat → Int32} {j : Nat} {x : Int32} {H1 : Heap} {cl : List vw_C} (e : H1[a]? = some ((vp_cell cA0 (n, .inl f)).setSlot j (.int x))) : va_at D cl (a, .inl (cA0, n, .inl (upd f j x))) H1 := by
  show H1[a]? = some (vp_cell _ _)
  rw [e]
  rw [vp_cell_i, vp_cell_i, arrV_store]
  congr 2
  funext q
  by_cases hq : q = j
  · subst hq
    simp [updV, upd]
  · simp [updV, upd, hq]
theorem z_stQ {a : Nat} {cA0 : ClassId} {n : Nat} {f : Nat → Option Nat} {j : Nat} {x : Nat} {H1 : Heap} {cl : List vw_C} (e : H1[a]? = some ((vp_cell cA0 (n, .inr (.inr (.inr (.inr f))))).setSlot j (.ref x))) : va_at D cl (a, .inl (cA0, n, .inr (.inr (.inr (.inr (va_up f j (some x))))))) H1 := by
  show H1[a]? = some (vp_cell _ _)
  rw [e]
  rw [vp_cell_q, vp_cell_q, arrV_store]
  congr 2
  funext q
  by_cases hq : q = j
  · subst hq
    simp [updV, va_up, va_rf]
  · simp [updV, va_up, hq]
theorem z_vpvm (cA0 : ClassId) (x : vp_A) : (vp_cell cA0 x).vm = .none := by
  obtain ⟨n, f | f | f | f | f⟩ := x <;> rfl
theorem z_vpcls (cA0 : ClassId) (x : vp_A) : (vp_cell cA0 x).cls = cA0 := by
  obtain ⟨n, f | f | f | f | f⟩ := x <;> rfl
theorem z_tbH {cc : ByteArray} {rest : List Value} {t N : Nat} {f : Nat → Value} {A : Nat → Prop} (hexec : p.tables.exec = Jvm.exec) (hb : c.code = cc) (hT : va_T .byte t N f A s H) {i : Int32} (hin : vp_in i N) {v : Value} (hv : f i.toNatClampNeg = v) (hdg : decode cc pc = .ok (.baload, 1))
    (kk : W p l e R s m args below meth c H locs cells slots Q (F0 m (pc + 1) lsR (v :: rest))) : W p l e R s m args below meth c H locs cells slots Q (F0 m pc lsR (.int i :: .ref t :: rest)) := by
  obtain ⟨cell, h1, h2, h3, h4, h5, h6, h7⟩ := hT
  have hlt : i.toNatClampNeg < N := Nat.not_le.mp fun q => hin (Or.inr q)
  have hin' : ¬ (i < 0 ∨ cell.slots.size ≤ i.toNatClampNeg) := by
    intro q
    rcases q with q | q
    · exact hin (Or.inl q)
    · omega
  exact W.bald (v := v) hexec hb h1 h2 h3 hin' (by rw [h6 _ hlt, hv]) rfl rfl hdg kk
theorem z_tlenH {cc : ByteArray} {rest : List Value} {t N : Nat} {f : Nat → Value} {A : Nat → Prop} (hexec : p.tables.exec = Jvm.exec) (hb : c.code = cc) (hT : va_T .byte t N f A s H) (hdg : decode cc pc = .ok (.arraylength, 1))
    (kk : W p l e R s m args below meth c H locs cells slots Q (F0 m (pc + 1) lsR (.int (nI N) :: rest))) : W p l e R s m args below meth c H locs cells slots Q (F0 m pc lsR (.ref t :: rest)) := by
  obtain ⟨cell, h1, h2, h3, h4, h5, h6, h7⟩ := hT
  exact W.alen (n := nI N) hexec hb h1 h2 h5 rfl rfl hdg kk
theorem z_litT (hE : z_EV D cA ra adV HB g s) (hr : z_HR D cA HB h H) (q : Nat) (hq : q < 6) : va_T .byte (adV q) (z_lit q).length (fun j => .int ((z_lit q).getD j 0)) (z_A HB) s H := by
  have h1 := ((z_strK hE hr).1 q hq).2.2.2
  rcases (show q = 0 ∨ q = 1 ∨ q = 2 ∨ q = 3 ∨ q = 4 ∨ q = 5 by omega) with rfl | rfl | rfl | rfl | rfl | rfl <;> exact h1
theorem z_m3out (c9 : ClassId) (N h0 w : Nat) : ∀ i : Nat, m3_o c9 N h0 w i = arrV c9 N (fun j => va_rf (if j < i then some (h0 + 1 + j * w) else none))
  | 0 => by
    show ({ cls := c9, slots := Array.replicate N .null, vm := .none } : Cell) = _
    rw [arrV_new]
    refine congrArg (arrV c9 N) (funext fun j => ?_)
    simp [va_rf]
  | i + 1 => by
    show (m3_o c9 N h0 w i).setSlot i (.ref (h0 + 1 + i * w)) = _
    rw [z_m3out c9 N h0 w i, arrV_store]
    refine congrArg (arrV c9 N) (funext fun j => ?_)
    by_cases e : j = i
    · subst e
      simp [updV, va_rf]
    · by_cases h : j < i
      · simp [updV, e, h, Nat.lt_succ_of_lt h]
      · simp [updV, e, h, show ¬ j < i + 1 by omega]
theorem z_nar_b (x : Int32) : narrow .byte (.int x) = .int (vp_nar .byte x) := rfl
theorem z_nar_z (x : Int32) : narrow .boolean (.int x) = .int (vp_nar .boolean x) := rfl
set_option maxHeartbeats 2000000 in
theorem z_S_iaload (hF : z_FR mi p l s m args meth c) (hE : z_EV D cA ra adV HB g s) (hdg : decode c.code pc = .ok (.iaload, n)) (hn : z_len (.iaload) = 0 ∨ n = z_len (.iaload)) (hop : z_op g mi pc (.iaload) ls st h = some (.inl (.inl (pc', ls', st', h'))))
    (hr : z_HR D cA HB h H) (hl : z_LR ra lsR ls) (hS : ∀ q ∈ locs, HB.size ≤ q.base) (hc : cells + c0 = h.2.2.1) (hs : slots + s0 = h.2.2.2)
    (kk : z_KK p l e R s m args below meth c Q D cA ra HB c0 s0 pc' ls' st' h') : W p l e R s m args below meth c H locs cells slots Q (F0 m pc lsR (st.map (z_rv ra))) := by
  have hn : n = 1 := by simpa [z_len] using hn
  subst hn
  obtain ⟨hx, -⟩ := hF
  simp only [z_op] at hop
  split at hop
  · next j a r =>
    obtain ⟨v, hv, hop⟩ := Option.bind_eq_some_iff.mp hop
    simp only [z_go, Option.some.injEq, Sum.inl.injEq, Prod.mk.injEq] at hop
    obtain ⟨rfl, rfl, rfl, rfl⟩ := hop
    simp only [z_rd] at hv
    split at hv
    · split at hv
      · next hi =>
        cases hv
        obtain ⟨scr, q1, q2, q3, q4, q5⟩ := hE.2.2.2.2.2.2.2.2.2.1
        have hin := z_idx_spec hi
        have hlt : j.toNatClampNeg < g.1 := Nat.not_le.mp fun q => hin (Or.inr q)
        have hb1 : ra 99 < HB.size := (Array.getElem?_eq_some_iff.mp q1).1
        exact W.iald (v := .int (g.2 j.toNatClampNeg)) hx rfl (by rw [hr.2.2.2 _ hb1]; exact q1) q2 q3 (by rw [q4]; exact hin) (q5 _ hlt) rfl rfl hdg (kk _ _ _ _ _ hr hl hS hc hs)
      · cases hv
    · cases hv
    · next a =>
      split at hv
      · next ty k f hh =>
        split at hv
        · next hi =>
          have hin := z_idx_spec hi
          have hP := hr.one hh
          split at hv
          · cases hv
            exact va_iald hx rfl hE.1 hP 0 0 rfl (z_tyat hE.1 0 rfl) hin hdg (kk _ _ _ _ _ hr hl hS hc hs)
          all_goals first | (cases hv; done) | (rename_i q9; cases q9; done)
        · cases hv
      · cases hv
    · cases hv
  · cases hop
set_option maxHeartbeats 2000000 in
theorem z_S_baload (hF : z_FR mi p l s m args meth c) (hE : z_EV D cA ra adV HB g s) (hdg : decode c.code pc = .ok (.baload, n)) (hn : z_len (.baload) = 0 ∨ n = z_len (.baload)) (hop : z_op g mi pc (.baload) ls st h = some (.inl (.inl (pc', ls', st', h'))))
    (hr : z_HR D cA HB h H) (hl : z_LR ra lsR ls) (hS : ∀ q ∈ locs, HB.size ≤ q.base) (hc : cells + c0 = h.2.2.1) (hs : slots + s0 = h.2.2.2)
    (kk : z_KK p l e R s m args below meth c Q D cA ra HB c0 s0 pc' ls' st' h') : W p l e R s m args below meth c H locs cells slots Q (F0 m pc lsR (st.map (z_rv ra))) := by
  have hn : n = 1 := by simpa [z_len] using hn
  subst hn
  obtain ⟨hx, -⟩ := hF
  simp only [z_op] at hop
  split at hop
  · next j a r =>
    obtain ⟨v, hv, hop⟩ := Option.bind_eq_some_iff.mp hop
    simp only [z_go, Option.some.injEq, Sum.inl.injEq, Prod.mk.injEq] at hop
    obtain ⟨rfl, rfl, rfl, rfl⟩ := hop
    simp only [z_rd] at hv
    split at hv
    · cases hv
    · split at hv
      · next hi =>
        cases hv
        have hT := hE.2.2.2.2.2.2.2.2.1.2.kept (H1 := H) fun a h9 _ => hr.2.2.2 a h9
        have hin := z_idx_spec hi
        have hlt : j.toNatClampNeg < 10 := Nat.not_le.mp fun q => hin (Or.inr q)
        have hin2 : vp_in j 100 := fun q => q.elim (fun z => hin (Or.inl z)) (fun z => by omega)
        refine z_tbH hx rfl hT hin2 (v := .int (nI (48 + j.toNatClampNeg))) (by rw [Nat.mod_eq_of_lt hlt]) hdg (kk _ _ _ _ _ hr hl hS hc hs)
      · cases hv
    · next a =>
      split at hv
      · next ty k f hh =>
        split at hv
        · next hi =>
          have hin := z_idx_spec hi
          have hP := hr.one hh
          split at hv
          · rename_i q9; cases q9
          · cases hv
            exact va_bald hx rfl hE.1 hP 0 2 rfl (z_tyat hE.1 2 rfl) hin hdg (kk _ _ _ _ _ hr hl hS hc hs)
          · cases hv
            exact va_zald hx rfl hE.1 hP 0 1 rfl (z_tyat hE.1 1 rfl) hin hdg (kk _ _ _ _ _ hr hl hS hc hs)
          all_goals first | (cases hv; done) | (rename_i q9; cases q9; done)
        · cases hv
      · cases hv
    · cases hv
  · cases hop
set_option maxHeartbeats 2000000 in
theorem z_S_aaload (hF : z_FR mi p l s m args meth c) (hE : z_EV D cA ra adV HB g s) (hdg : decode c.code pc = .ok (.aaload, n)) (hn : z_len (.aaload) = 0 ∨ n = z_len (.aaload)) (hop : z_op g mi pc (.aaload) ls st h = some (.inl (.inl (pc', ls', st', h'))))
    (hr : z_HR D cA HB h H) (hl : z_LR ra lsR ls) (hS : ∀ q ∈ locs, HB.size ≤ q.base) (hc : cells + c0 = h.2.2.1) (hs : slots + s0 = h.2.2.2)
    (kk : z_KK p l e R s m args below meth c Q D cA ra HB c0 s0 pc' ls' st' h') : W p l e R s m args below meth c H locs cells slots Q (F0 m pc lsR (st.map (z_rv ra))) := by
  have hn : n = 1 := by simpa [z_len] using hn
  subst hn
  obtain ⟨hx, -⟩ := hF
  simp only [z_op] at hop
  split at hop
  · next j a r =>
    obtain ⟨v, hv, hop⟩ := Option.bind_eq_some_iff.mp hop
    simp only [z_go, Option.some.injEq, Sum.inl.injEq, Prod.mk.injEq] at hop
    obtain ⟨rfl, rfl, rfl, rfl⟩ := hop
    simp only [z_rd] at hv
    split at hv
    · cases hv
    · cases hv
    · next a =>
      split at hv
      · next ty k f hh =>
        split at hv
        · next hi =>
          have hin := z_idx_spec hi
          have hP := hr.one hh
          split at hv
          · rename_i q9; cases q9
          · rename_i q9; cases q9
          · rename_i q9; cases q9
          · split at hv
            · next r9 hr9 =>
              cases hv
              have hlt : j.toNatClampNeg < k := Nat.not_le.mp fun q => hin (Or.inr q)
              have hv9 : (arrV (cA (.array .int)) k (fun j => va_rf (‹Nat → Option Nat› j))).slots[j.toNatClampNeg]? = some (.ref r9) := by
                rw [arrV_read _ _ hlt, hr9]; rfl
              exact W.aald (v := .ref r9) hx rfl (hP 0 _ rfl) ((hE.1.2 3 _ (z_tyat hE.1 3 rfl)).1 k _) rfl (fun q => by cases q) (by show ¬ (j < 0 ∨ (arrV _ _ _).slots.size ≤ _); rw [arrV_size]; exact hin) hv9 rfl rfl hdg (kk _ _ _ _ _ hr hl hS hc hs)
            · cases hv
          · split at hv
            · next r9 hr9 =>
              cases hv
              have hlt : j.toNatClampNeg < k := Nat.not_le.mp fun q => hin (Or.inr q)
              have hv9 : (arrV (cA (.array .boolean)) k (fun j => va_rf (‹Nat → Option Nat› j))).slots[j.toNatClampNeg]? = some (.ref r9) := by
                rw [arrV_read _ _ hlt, hr9]; rfl
              exact W.aald (v := .ref r9) hx rfl (hP 0 _ rfl) ((hE.1.2 4 _ (z_tyat hE.1 4 rfl)).1 k _) rfl (fun q => by cases q) (by show ¬ (j < 0 ∨ (arrV _ _ _).slots.size ≤ _); rw [arrV_size]; exact hin) hv9 rfl rfl hdg (kk _ _ _ _ _ hr hl hS hc hs)
            · cases hv
          · split at hv
            · next r9 hr9 =>
              cases hv
              have hlt : j.toNatClampNeg < k := Nat.not_le.mp fun q => hin (Or.inr q)
              have hv9 : (arrV (cA (.array (.array .boolean))) k (fun j => va_rf (‹Nat → Option Nat› j))).slots[j.toNatClampNeg]? = some (.ref r9) := by
                rw [arrV_read _ _ hlt, hr9]; rfl
              exact W.aald (v := .ref r9) hx rfl (hP 0 _ rfl) ((hE.1.2 5 _ (z_tyat hE.1 5 rfl)).1 k _) rfl (fun q => by cases q) (by show ¬ (j < 0 ∨ (arrV _ _ _).slots.size ≤ _); rw [arrV_size]; exact hin) hv9 rfl rfl hdg (kk _ _ _ _ _ hr hl hS hc hs)
            · cases hv
          · cases hv
        · cases hv
      · cases hv
    · cases hv
  · cases hop
set_option maxHeartbeats 2000000 in
theorem z_S_iastore (hF : z_FR mi p l s m args meth c) (hE : z_EV D cA ra adV HB g s) (hdg : decode c.code pc = .ok (.iastore, n)) (hn : z_len (.iastore) = 0 ∨ n = z_len (.iastore)) (hop : z_op g mi pc (.iastore) ls st h = some (.inl (.inl (pc', ls', st', h'))))
    (hr : z_HR D cA HB h H) (hl : z_LR ra lsR ls) (hS : ∀ q ∈ locs, HB.size ≤ q.base) (hc : cells + c0 = h.2.2.1) (hs : slots + s0 = h.2.2.2)
    (kk : z_KK p l e R s m args below meth c Q D cA ra HB c0 s0 pc' ls' st' h') : W p l e R s m args below meth c H locs cells slots Q (F0 m pc lsR (st.map (z_rv ra))) := by
  have hn : n = 1 := by simpa [z_len] using hn
  subst hn
  obtain ⟨hx, -⟩ := hF
  simp only [z_op] at hop
  split at hop
  · next v j a r =>
    obtain ⟨h9, hv, hop⟩ := Option.bind_eq_some_iff.mp hop
    simp only [z_go, Option.some.injEq, Sum.inl.injEq, Prod.mk.injEq] at hop
    obtain ⟨rfl, rfl, rfl, rfl⟩ := hop
    simp only [z_wr] at hv
    split at hv
    · next ty k f hh =>
      have hb := (hr.1 a _ hh).1
      split at hv
      · next hi =>
        have hin := z_idx_spec hi
        have hP := hr.one hh
        split at hv
        · cases hv
          exact W.iast hx rfl (hP 0 _ rfl) ((hE.1.2 0 _ (z_tyat hE.1 0 rfl)).1 k (fun j => .int (‹Nat → Int32› j))) (fun q => by cases q) (by show ¬ (j < 0 ∨ (arrV _ _ _).slots.size ≤ _); rw [arrV_size]; exact hin) rfl rfl hdg fun H1 e1 e2 e3 =>
            kk _ _ _ _ _ (hr.up hh e2 e3 (z_stI e1)) hl (z_bnd hS hb) hc hs
        all_goals first | (cases hv; done) | (rename_i q9; cases q9; done)
      · cases hv
    · cases hv
  · cases hop
set_option maxHeartbeats 2000000 in
theorem z_S_bastore (hF : z_FR mi p l s m args meth c) (hE : z_EV D cA ra adV HB g s) (hdg : decode c.code pc = .ok (.bastore, n)) (hn : z_len (.bastore) = 0 ∨ n = z_len (.bastore)) (hop : z_op g mi pc (.bastore) ls st h = some (.inl (.inl (pc', ls', st', h'))))
    (hr : z_HR D cA HB h H) (hl : z_LR ra lsR ls) (hS : ∀ q ∈ locs, HB.size ≤ q.base) (hc : cells + c0 = h.2.2.1) (hs : slots + s0 = h.2.2.2)
    (kk : z_KK p l e R s m args below meth c Q D cA ra HB c0 s0 pc' ls' st' h') : W p l e R s m args below meth c H locs cells slots Q (F0 m pc lsR (st.map (z_rv ra))) := by
  have hn : n = 1 := by simpa [z_len] using hn
  subst hn
  obtain ⟨hx, -⟩ := hF
  simp only [z_op] at hop
  split at hop
  · next v j a r =>
    obtain ⟨h9, hv, hop⟩ := Option.bind_eq_some_iff.mp hop
    simp only [z_go, Option.some.injEq, Sum.inl.injEq, Prod.mk.injEq] at hop
    obtain ⟨rfl, rfl, rfl, rfl⟩ := hop
    simp only [z_wr] at hv
    split at hv
    · next ty k f hh =>
      have hb := (hr.1 a _ hh).1
      split at hv
      · next hi =>
        have hin := z_idx_spec hi
        have hP := hr.one hh
        split at hv
        · rename_i q9; cases q9
        · cases hv
          exact W.bast hx rfl (hP 0 _ rfl) ((hE.1.2 2 _ (z_tyat hE.1 2 rfl)).1 k (fun j => .int (‹Nat → Int32› j))) (fun q => by cases q) (by show ¬ (j < 0 ∨ (arrV _ _ _).slots.size ≤ _); rw [arrV_size]; exact hin) rfl rfl hdg fun H1 e1 e2 e3 =>
            kk _ _ _ _ _ (hr.up hh e2 e3 (z_stI e1)) hl (z_bnd hS hb) hc hs
        · cases hv
          exact W.zast hx rfl (hP 0 _ rfl) ((hE.1.2 1 _ (z_tyat hE.1 1 rfl)).1 k (fun j => .int (‹Nat → Int32› j))) (fun q => by cases q) (by show ¬ (j < 0 ∨ (arrV _ _ _).slots.size ≤ _); rw [arrV_size]; exact hin) rfl rfl hdg fun H1 e1 e2 e3 =>
            kk _ _ _ _ _ (hr.up hh e2 e3 (z_stI e1)) hl (z_bnd hS hb) hc hs
        all_goals first | (cases hv; done) | (rename_i q9; cases q9; done)
      · cases hv
    · cases hv
  · cases hop
set_option maxHeartbeats 2000000 in
theorem z_S_aastore (hF : z_FR mi p l s m args meth c) (hE : z_EV D cA ra adV HB g s) (hdg : decode c.code pc = .ok (.aastore, n)) (hn : z_len (.aastore) = 0 ∨ n = z_len (.aastore)) (hop : z_op g mi pc (.aastore) ls st h = some (.inl (.inl (pc', ls', st', h'))))
    (hr : z_HR D cA HB h H) (hl : z_LR ra lsR ls) (hS : ∀ q ∈ locs, HB.size ≤ q.base) (hc : cells + c0 = h.2.2.1) (hs : slots + s0 = h.2.2.2)
    (kk : z_KK p l e R s m args below meth c Q D cA ra HB c0 s0 pc' ls' st' h') : W p l e R s m args below meth c H locs cells slots Q (F0 m pc lsR (st.map (z_rv ra))) := by
  have hn : n = 1 := by simpa [z_len] using hn
  subst hn
  obtain ⟨hx, -⟩ := hF
  simp only [z_op] at hop
  split at hop
  · next v j a r =>
    obtain ⟨h9, hv, hop⟩ := Option.bind_eq_some_iff.mp hop
    simp only [z_go, Option.some.injEq, Sum.inl.injEq, Prod.mk.injEq] at hop
    obtain ⟨rfl, rfl, rfl, rfl⟩ := hop
    simp only [z_wr] at hv
    split at hv
    · next ty k f hh =>
      have hb := (hr.1 a _ hh).1
      split at hv
      · next hi =>
        have hin := z_idx_spec hi
        have hP := hr.one hh
        split at hv
        · rename_i q9; cases q9
        · rename_i q9; cases q9
        · rename_i q9; cases q9
        · split at hv
          · next hia =>
            cases hv
            rename_i f9 r9 _ _ _
            unfold z_isIA at hia
            split at hia
            · next n9 z9 hh9 =>
              have hlt : j.toNatClampNeg < k := Nat.not_le.mp fun q => hin (Or.inr q)
              have h0 : ¬ j < 0 := fun q => hin (Or.inl q)
              have hP9 := hr.one hh9
              obtain ⟨comp, cA1, kA, k3, k1, k2, k4⟩ := Cond.arrayOver_specA (va_AOA.use (A := args) hE.2.2.2.2.2.2.2.1.1)
              have hcA : cA1 = cA (.array .int) := Option.some.inj (k4.symm.trans (hE.1.2 3 _ (z_tyat hE.1 3 rfl)).2)
              have hcomp : comp = cA .int := Option.some.inj (k3.symm.trans (hE.1.2 0 _ (z_tyat hE.1 0 rfl)).2)
              subst hcA
              subst hcomp
              obtain ⟨-, kC, hkC, -⟩ := ((hE.1.2 0 _ (z_tyat hE.1 0 rfl)).1 0 (fun _ => .null))
              exact W.aast hx rfl (hP 0 _ rfl) (fun q h => by cases h) (fun h => by cases h) k1 k2 rfl hkC ⟨h0, by show _ < (arrV _ _ _).slots.size; rw [arrV_size]; exact hlt⟩ (hP9 0 _ rfl) (fun q h => by rw [z_vpvm] at h; cases h) (by rw [z_vpcls]; exact hkC) (by rw [z_vpcls]; exact va_asg _ _) rfl rfl hdg fun H1 e1 e2 e3 =>
                kk _ _ _ _ _ (hr.up hh e2 e3 (z_stQ e1)) hl (z_bnd hS hb) hc hs
            · cases hia
          · cases hv
        · cases hv
      · cases hv
    · cases hv
  · cases hop
set_option maxHeartbeats 2000000 in
theorem z_S_arraylength (hF : z_FR mi p l s m args meth c) (hE : z_EV D cA ra adV HB g s) (hdg : decode c.code pc = .ok (.arraylength, n)) (hn : z_len (.arraylength) = 0 ∨ n = z_len (.arraylength)) (hop : z_op g mi pc (.arraylength) ls st h = some (.inl (.inl (pc', ls', st', h'))))
    (hr : z_HR D cA HB h H) (hl : z_LR ra lsR ls) (hS : ∀ q ∈ locs, HB.size ≤ q.base) (hc : cells + c0 = h.2.2.1) (hs : slots + s0 = h.2.2.2)
    (kk : z_KK p l e R s m args below meth c Q D cA ra HB c0 s0 pc' ls' st' h') : W p l e R s m args below meth c H locs cells slots Q (F0 m pc lsR (st.map (z_rv ra))) := by
  have hn : n = 1 := by simpa [z_len] using hn
  subst hn
  obtain ⟨hx, -⟩ := hF
  simp only [z_op] at hop
  split at hop
  · simp only [z_go, Option.some.injEq, Sum.inl.injEq, Prod.mk.injEq] at hop
    obtain ⟨rfl, rfl, rfl, rfl⟩ := hop
    obtain ⟨scr, q1, q2, q3, q4, q5⟩ := hE.2.2.2.2.2.2.2.2.2.1
    have hb1 : ra 99 < HB.size := (Array.getElem?_eq_some_iff.mp q1).1
    exact W.alen (n := nI g.1) hx rfl (by rw [hr.2.2.2 _ hb1]; exact q1) q2 (by rw [q4]; rfl) rfl rfl hdg (kk _ _ _ _ _ hr hl hS hc hs)
  · split at hop
    · next hk =>
      simp only [z_go, Option.some.injEq, Sum.inl.injEq, Prod.mk.injEq] at hop
      obtain ⟨rfl, rfl, rfl, rfl⟩ := hop
      rename_i k9 _ _
      obtain ⟨q, rfl⟩ := Nat.exists_eq_add_of_le hk.1
      have hq : q < 6 := by omega
      rw [show 50 + q - 50 = q by omega] at kk
      have hT := z_litT hE hr q hq
      have e9 := hE.2.2.2.2.2.2.2.2.2.2.2.2.2 q hq
      show W p l e R s m args below meth c H locs cells slots Q (F0 m pc lsR (Value.ref (ra (50 + q)) :: _))
      rw [e9]
      exact z_tlenH hx rfl hT hdg (kk _ _ _ _ _ hr hl hS hc hs)
    · cases hop
  · split at hop
    · next n9 z9 hh =>
      simp only [z_go, Option.some.injEq, Sum.inl.injEq, Prod.mk.injEq] at hop
      obtain ⟨rfl, rfl, rfl, rfl⟩ := hop
      exact va_alen hx rfl hE.1 (hr.one hh) 0 2 rfl (z_tyat hE.1 2 rfl) rfl hdg (kk _ _ _ _ _ hr hl hS hc hs)
    · next n9 z9 hh =>
      simp only [z_go, Option.some.injEq, Sum.inl.injEq, Prod.mk.injEq] at hop
      obtain ⟨rfl, rfl, rfl, rfl⟩ := hop
      exact va_alen hx rfl hE.1 (hr.one hh) 0 1 rfl (z_tyat hE.1 1 rfl) rfl hdg (kk _ _ _ _ _ hr hl hS hc hs)
    · cases hop
  · cases hop
theorem z_HR.push {H H' : Heap} {q k : Nat} {x : z_C} (hr : z_HR D cA HB h H) (hq : h.2.1 = some q) (hz : H'.size = q + 1) (ho : ∀ y, y < q → H'[y]? = H[y]?) (he : va_at D vwCl (q, z_cv cA x) H') : z_HR D cA HB (z_up h.1 q x, some (q + 1), k, n) H' := by
  obtain ⟨h1, h2, h3, h4⟩ := hr
  have hs := h2 q hq
  refine ⟨fun a cx hx => ?_, fun y hy => by cases hy; exact hz, by rw [hz]; omega, fun y hy => by rw [ho y (by omega)]; exact h4 y hy⟩
  by_cases e : a = q
  · subst e
    simp [z_up] at hx
    subst hx
    exact ⟨by omega, he⟩
  · simp [z_up, e] at hx
    obtain ⟨g1, g2⟩ := h1 a cx hx
    exact ⟨g1, g2.kept (ho a (by have := g2.lt; omega))⟩
set_option maxHeartbeats 2000000 in
theorem z_S_newarray {t : ArrayType} (hF : z_FR mi p l s m args meth c) (hE : z_EV D cA ra adV HB g s) (hdg : decode c.code pc = .ok (.newarray t, n)) (hn : z_len (.newarray t) = 0 ∨ n = z_len (.newarray t)) (hop : z_op g mi pc (.newarray t) ls st h = some (.inl (.inl (pc', ls', st', h'))))
    (hr : z_HR D cA HB h H) (hl : z_LR ra lsR ls) (hS : ∀ q ∈ locs, HB.size ≤ q.base) (hc : cells + c0 = h.2.2.1) (hs : slots + s0 = h.2.2.2) (hcR : h'.2.2.1 ≤ R.cells + c0) (hsR : h'.2.2.2 ≤ R.slots + s0) (hRf : 10 ≤ R.frames) (hRl : 600 ≤ R.locals)
    (kk : z_KK p l e R s m args below meth c Q D cA ra HB c0 s0 pc' ls' st' h') : W p l e R s m args below meth c H locs cells slots Q (F0 m pc lsR (st.map (z_rv ra))) := by
  have hn : n = 2 := by simpa [z_len] using hn
  subst hn
  obtain ⟨hx, -, hts, -⟩ := hF
  simp only [z_op] at hop
  split at hop
  · next k r =>
    obtain ⟨⟨q, h9⟩, hv, hop⟩ := Option.bind_eq_some_iff.mp hop
    simp only [z_go, Option.some.injEq, Sum.inl.injEq, Prod.mk.injEq] at hop
    obtain ⟨rfl, rfl, rfl, rfl⟩ := hop
    simp only [z_na] at hv
    split at hv
    · next ty f q ha hq =>
      split at hv
      · next hk =>
        simp only [Option.some.injEq, Prod.mk.injEq] at hv
        obtain ⟨rfl, rfl⟩ := hv
        have hk0 : ¬ k < 0 := Int32.not_lt.mpr hk.1
        have hk1 : k.toNatClampNeg ≤ 1000 := by
          have := Int32.le_iff_toInt_le.mp hk.2
          have e1 : (1000 : Int32).toInt = 1000 := by decide
          rw [e1] at this
          show k.toInt.toNat ≤ 1000
          omega
        have hsz := hr.2.1 q hq
        dsimp only at hcR hsR
        have fin : ∀ (tt : FieldType) (j : Nat) (x : vp_A), newarray.typeOf t = tt → z_tyl[j]? = some tt → (∀ C, tt ≠ .object C) → (Cond.arrayClass tt).before args s = true → componentBytes tt ≤ 8 → (∀ cx : ClassId, vp_cell cx x = arrV cx k.toNatClampNeg (fun _ => defaultValue tt)) →
            z_KK p l e R s m args below meth c Q D cA ra HB c0 s0 (pc + 2) ls (.ref q :: r) (z_up h.1 q (.inl (tt, x)), some (q + 1), h.2.2.1 + 1, h.2.2.2 + k.toNatClampNeg) → W p l e R s m args below meth c H locs cells slots Q (F0 m pc lsR ((Value.int k :: r).map (z_rv ra))) := by
          intro tt j x htt hj hno hac hby hcell k9
          subst htt
          have hra := (hE.1.2 j _ (z_tyat hE.1 j hj)).2
          refine va_newaK hx rfl hac rfl hdg rfl hk0 rfl (by have := Nat.mul_le_mul hk1 hby; omega) (by omega) (by omega) hsz fun H1 cX e1 z1 o1 hAr hNm => ?_
          have hcx : cX = cA (newarray.typeOf t) := by
            cases t <;> (first | exact absurd rfl (hno _) | exact Option.some.inj (hNm.symm.trans hra))
          subst hcx
          refine k9 _ _ _ _ _ (hr.push hq z1 o1 ?_) hl hS (by show cells + 1 + c0 = h.2.2.1 + 1; omega) (by show slots + k.toNatClampNeg + s0 = h.2.2.2 + k.toNatClampNeg; omega)
          show H1[q]? = some (vp_cell _ _)
          rw [hcell]
          exact e1
        have hacs := fun j hj => z_placesG z_ac0 z_acg (Cond.arrayClass j) (List.mem_map.mpr hj)
        cases t <;> simp only [z_arr0] at ha <;> (try (cases ha; done)) <;> (simp only [Option.some.injEq, Prod.mk.injEq] at ha; obtain ⟨rfl, rfl⟩ := ha)
        · exact fin .boolean 1 _ rfl rfl (fun _ q => by cases q) (hts _ (hacs _ ⟨_, List.mem_of_getElem? (i := 1) rfl, rfl⟩)) (by decide) (fun _ => rfl) kk
        · exact fin .byte 2 _ rfl rfl (fun _ q => by cases q) (hts _ (hacs _ ⟨_, List.mem_of_getElem? (i := 2) rfl, rfl⟩)) (by decide) (fun _ => rfl) kk
        · exact fin .int 0 _ rfl rfl (fun _ q => by cases q) (hts _ (hacs _ ⟨_, List.mem_of_getElem? (i := 0) rfl, rfl⟩)) (by decide) (fun _ => rfl) kk
      · cases hv
    · cases hv
  · cases hop
theorem z_big {z : Int32} {N : Nat} (hN : N < 2147483648) (hz : z ≤ nI N) : z.toNatClampNeg ≤ N := by
  have := Int32.le_iff_toInt_le.mp hz
  rw [nI_toInt (by omega)] at this
  show z.toInt.toNat ≤ N
  omega
set_option maxHeartbeats 4000000 in
theorem z_ma2S {ty : FieldType} {idx : Nat} {q : Nat × z_H} {k nn : Int32} {r : List Value} (hF : z_FR mi p l s m args meth c) (hE : z_EV D cA ra adV HB g s) (hdg : decode c.code pc = .ok (.multianewarray idx 2, 4)) (j1 j2 : Nat) (hj1 : z_tyl[j1]? = some ty) (hj2 : z_tyl[j2]? = some (.array ty)) (hno : ∀ C, ty ≠ .object C)
    (hd0 : ∀ cx M, Jvm.Free.Multi.innerC cx M (defaultValue ty) = vp_cell cx (M, .inl fun _ => 0)) (hby : componentBytes ty ≤ 4) (hdf : fits ty (defaultValue ty) = true) (hdd : (defaultValue ty).isDefault = true)
    (hlink : (Cond.classLink (z_own mi) idx ("[" ++ (FieldType.array ty).toString)).before args s = true) (hov : va_AOA ty s) (hac : (Cond.arrayClass ty).before args s = true) (hv : z_ma2 ty h nn k = some q)
    (hr : z_HR D cA HB h H) (hl : z_LR ra lsR ls) (hS : ∀ q ∈ locs, HB.size ≤ q.base) (hc : cells + c0 = h.2.2.1) (hs : slots + s0 = h.2.2.2) (hcR : q.2.2.2.1 ≤ R.cells + c0) (hsR : q.2.2.2.2 ≤ R.slots + s0)
    (kk : z_KK p l e R s m args below meth c Q D cA ra HB c0 s0 (pc + 4) ls (.ref q.1 :: r) q.2) : W p l e R s m args below meth c H locs cells slots Q (F0 m pc lsR ((Value.int k :: .int nn :: r).map (z_rv ra))) := by
  have hown := z_own_spec hF
  obtain ⟨hx, -, hts, -⟩ := hF
  unfold z_ma2 at hv
  split at hv
  · next q0 hq =>
    split at hv
    · next hk =>
      cases hv
      obtain ⟨⟨hn0, hn1⟩, hk0, hk1⟩ := hk
      have hn2 : nn.toNatClampNeg ≤ 1000 := z_big (by omega) hn1
      have hk2 : k.toNatClampNeg ≤ 1000 := z_big (by omega) hk1
      have hsz := hr.2.1 q0 hq
      dsimp only at hcR hsR
      intro T hT Xs
      have hb2 : k.toNatClampNeg * componentBytes ty ≤ 536870912 := by
        have := Nat.mul_le_mul hk2 hby
        omega
      obtain ⟨vm₁, cX, comp, -, fA, fC, hO, -, X', step⟩ := Xs.multianewarray2F hx hown (ty := ty) hlink (va_AOA.use hov) hac (g := F0 m pc lsR (.int k :: .int nn :: r.map (z_rv ra))) rfl hdg rfl (Int32.not_lt.mpr hn0) (Int32.not_lt.mpr hk0) (by omega) hb2 (by omega) hdf hdd (by omega) (by omega)
      have r1 := (hE.1.2 j1 _ (z_tyat hE.1 j1 hj1)).2
      have r2 := (hE.1.2 j2 _ (z_tyat hE.1 j2 hj2)).2
      have ec : comp = cA ty := by
        cases ty <;> first | exact absurd rfl (hno _) | exact Option.some.inj (fC.symm.trans r1)
      have hcX : cX = cA (.array ty) := Option.some.inj (fA.symm.trans r2)
      subst hcX
      subst ec
      generalize hFF : Jvm.Free.Multi.fill (T.setVm vm₁) (cA (.array ty)) (cA ty) nn.toNatClampNeg k.toNatClampNeg (defaultValue ty) nn.toNatClampNeg = F at X' step
      have hTh : (T.setVm vm₁).heap = H := hT
      obtain ⟨f1, f2, -, -⟩ := Jvm.Free.Multi.fill_facts (T.setVm vm₁) (cA (.array ty)) (cA ty) nn.toNatClampNeg k.toNatClampNeg (defaultValue ty) nn.toNatClampNeg
      rw [hFF, hTh] at f1 f2
      have hold : ∀ x : Nat, x < H.size → F.heap[x]? = H[x]? := fun x hx => by
        have := Jvm.Free.Multi.fill_old (T.setVm vm₁) (cA (.array ty)) (cA ty) nn.toNatClampNeg k.toNatClampNeg (defaultValue ty) (a := x) (by rw [hTh]; exact hx) nn.toNatClampNeg
        rw [hFF, hTh] at this
        exact this
      have hrow : ∀ j : Nat, j < nn.toNatClampNeg → F.heap[H.size + 1 + j]? = some (vp_cell (cA ty) (k.toNatClampNeg, .inl fun _ => 0)) := fun j hj => by
        have := Jvm.Free.Multi.fill_inner (T.setVm vm₁) (cA (.array ty)) (cA ty) nn.toNatClampNeg k.toNatClampNeg (defaultValue ty) nn.toNatClampNeg j hj
        rw [hFF, hTh] at this
        rw [this, hd0]
      have hout : Jvm.Free.Multi.outerC (cA (.array ty)) nn.toNatClampNeg H.size nn.toNatClampNeg = vp_cell (cA (.array ty)) (nn.toNatClampNeg, .inr (.inr (.inr (.inr (fun i => if i < nn.toNatClampNeg then some (H.size + 1 + i) else none))))) := by
        rw [vp_cell_q]
        exact vr_outer (cA (.array ty)) nn.toNatClampNeg H.size nn.toNatClampNeg
      rw [hout] at f2
      have hH : z_HR D cA HB (fun j => if j = q0 then some (.inl (.array ty, nn.toNatClampNeg, .inr (.inr (.inr (.inr fun i => if i < nn.toNatClampNeg then some (q0 + 1 + i) else none)))))
          else if q0 < j ∧ j ≤ q0 + nn.toNatClampNeg then some (.inl (ty, k.toNatClampNeg, .inl fun _ => 0)) else h.1 j, some (q0 + 1 + nn.toNatClampNeg), h.2.2.1 + 1 + nn.toNatClampNeg, h.2.2.2 + nn.toNatClampNeg + nn.toNatClampNeg * k.toNatClampNeg) F.heap := by
        obtain ⟨h1, h2, h3, h4⟩ := hr
        rw [hsz] at f1 f2 hrow hold
        refine ⟨fun a cx hx => ?_, fun y hy => by cases hy; rw [f1], by rw [f1]; omega, fun y hy => by rw [hold y (by omega)]; exact h4 y hy⟩
        dsimp only at hx
        split at hx
        · next ea =>
          subst ea
          cases hx
          exact ⟨by omega, f2⟩
        · split at hx
          · next ea =>
            cases hx
            refine ⟨by omega, ?_⟩
            have e9 : a = q0 + 1 + (a - q0 - 1) := by omega
            show F.heap[a]? = _
            rw [e9]
            exact hrow _ (by omega)
          · obtain ⟨g1, g2⟩ := h1 a cx hx
            exact ⟨g1, g2.kept (hold a (by have := g2.lt; omega))⟩
      obtain ⟨t, a1, b1⟩ := kk F.heap locs (cells + 1 + nn.toNatClampNeg) (slots + nn.toNatClampNeg + nn.toNatClampNeg * k.toNatClampNeg) lsR hH hl hS (by show _ = h.2.2.1 + 1 + nn.toNatClampNeg; omega) (by show _ = h.2.2.2 + nn.toNatClampNeg + nn.toNatClampNeg * k.toNatClampNeg; omega) F rfl X'
      refine ⟨t, step t ?_, b1⟩
      have e1 : T.heap.size = q0 := by rw [hT]; exact hsz
      rw [e1]
      exact a1
    · cases hv
  · cases hv
set_option maxHeartbeats 4000000 in
theorem z_ma3S {idx : Nat} {q : Nat × z_H} {n3 k3 l3 : Int32} {r : List Value} (hF : z_FR mi p l s m args meth c) (hE : z_EV D cA ra adV HB g s) (hdg : decode c.code pc = .ok (.multianewarray idx 3, 4))
    (hlink : (Cond.classLink (z_own mi) idx ("[" ++ (FieldType.array (.array .boolean)).toString)).before args s = true) (hac : (Cond.arrayClass .boolean).before args s = true) (hv : z_ma3 h n3 k3 l3 = some q)
    (hr : z_HR D cA HB h H) (hl : z_LR ra lsR ls) (hS : ∀ q ∈ locs, HB.size ≤ q.base) (hc : cells + c0 = h.2.2.1) (hs : slots + s0 = h.2.2.2) (hcR : q.2.2.2.1 ≤ R.cells + c0) (hsR : q.2.2.2.2 ≤ R.slots + s0)
    (kk : z_KK p l e R s m args below meth c Q D cA ra HB c0 s0 (pc + 4) ls (.ref q.1 :: r) q.2) : W p l e R s m args below meth c H locs cells slots Q (F0 m pc lsR ((Value.int l3 :: .int k3 :: .int n3 :: r).map (z_rv ra))) := by
  have hown := z_own_spec hF
  obtain ⟨hx, -, hts, -⟩ := hF
  unfold z_ma3 at hv
  split at hv
  · next q0 hq =>
    split at hv
    · next hk =>
      cases hv
      obtain ⟨⟨hn0, hn1⟩, ⟨hk0, hk1⟩, hl0, hl1⟩ := hk
      have hn2 : n3.toNatClampNeg ≤ 100 := z_big (by omega) hn1
      have hk2 : k3.toNatClampNeg ≤ 100 := z_big (by omega) hk1
      have hl2 : l3.toNatClampNeg ≤ 100 := z_big (by omega) hl1
      have hsz := hr.2.1 q0 hq
      dsimp only at hcR hsR
      generalize en : n3.toNatClampNeg = n at *
      generalize ek : k3.toNatClampNeg = k at *
      generalize el : l3.toNatClampNeg = ll at *
      intro T hT Xs
      obtain ⟨vm₁, b0, b1, b2, f0, f1, f2, X', step⟩ := m3_run Xs hx hown (ty := .boolean) hlink (va_AOA.use hE.2.2.2.2.2.2.2.1.2.2) (va_AOA.use hE.2.2.2.2.2.2.2.1.2.1) hac (g := F0 m pc lsR (.int l3 :: .int k3 :: .int n3 :: r.map (z_rv ra))) rfl hdg rfl (Int32.not_lt.mpr hn0) (Int32.not_lt.mpr hk0) (Int32.not_lt.mpr hl0) (by omega) (by omega) (by omega) (by decide) rfl rfl (by rw [en, ek]; omega) (by rw [en, ek, el]; omega)
      have r0 := (hE.1.2 5 _ (z_tyat hE.1 5 rfl)).2
      have r1 := (hE.1.2 4 _ (z_tyat hE.1 4 rfl)).2
      have r2 := (hE.1.2 1 _ (z_tyat hE.1 1 rfl)).2
      have e0 : b0 = cA (.array (.array .boolean)) := Option.some.inj (f0.symm.trans r0)
      have e1 : b1 = cA (.array .boolean) := Option.some.inj (f1.symm.trans r1)
      have e2 : b2 = cA .boolean := Option.some.inj (f2.symm.trans r2)
      subst e0; subst e1; subst e2
      rw [en, ek, el] at X' step
      generalize hFF : m3_f (T.setVm vm₁) (cA (.array (.array .boolean))) (cA (.array .boolean)) (cA .boolean) n k ll (defaultValue .boolean) n = F at X' step
      have hTh : (T.setVm vm₁).heap = H := hT
      obtain ⟨g1, g2, -, -⟩ := m3_fF (T.setVm vm₁) (cA (.array (.array .boolean))) (cA (.array .boolean)) (cA .boolean) n k ll (defaultValue .boolean) n
      have g3 := m3_in (T.setVm vm₁) (cA (.array (.array .boolean))) (cA (.array .boolean)) (cA .boolean) n k ll (defaultValue .boolean) n
      have g4 := fun {a : Nat} (ha : a < (T.setVm vm₁).heap.size) => m3_old (T.setVm vm₁) (cA (.array (.array .boolean))) (cA (.array .boolean)) (cA .boolean) n k ll (defaultValue .boolean) (a := a) ha n
      rw [hFF, hTh, hsz] at g1 g2 g3 g4
      have hout : m3_o (cA (.array (.array .boolean))) n q0 (1 + k) n = vp_cell (cA (.array (.array .boolean))) (n, .inr (.inr (.inr (.inr (fun i => if i < n then some (q0 + 1 + i * (1 + k)) else none))))) := by
        rw [vp_cell_q]
        exact z_m3out _ _ _ _ _
      rw [hout] at g2
      have hH : z_HR D cA HB (z_m3 q0 n k ll h.1, some (q0 + 1 + n * (1 + k)), h.2.2.1 + 1 + n * (1 + k), h.2.2.2 + n + n * (k + k * ll)) F.heap := by
        obtain ⟨h1, h2, h3, h4⟩ := hr
        refine ⟨fun a cx hx => ?_, fun y hy => by cases hy; rw [g1], by rw [g1]; omega, fun y hy => by rw [g4 (by omega)]; exact h4 y hy⟩
        unfold z_m3 at hx
        dsimp only at hx
        split at hx
        · next ea =>
          subst ea
          cases hx
          exact ⟨by omega, g2⟩
        · split at hx
          · next ne ea =>
            have hdm := Nat.div_add_mod (a - q0 - 1) (1 + k)
            have hml : (a - q0 - 1) % (1 + k) < 1 + k := Nat.mod_lt _ (by omega)
            have hdl : (a - q0 - 1) / (1 + k) < n := by
              rw [Nat.div_lt_iff_lt_mul (by omega)]
              omega
            obtain ⟨i1, i2⟩ := g3 _ hdl
            rw [Nat.mul_comm] at hdm
            split at hx
            · next em =>
              cases hx
              refine ⟨by omega, ?_⟩
              have ea9 : a = q0 + 1 + (a - q0 - 1) / (1 + k) * (1 + k) := by omega
              show F.heap[a]? = some (vp_cell _ _)
              rw [vp_cell_q]
              have := vr_outer (cA (.array .boolean)) k a k
              rw [← this]
              rw [← ea9] at i1
              exact i1
            · next em =>
              cases hx
              refine ⟨by omega, ?_⟩
              have ea9 : a = q0 + 1 + (a - q0 - 1) / (1 + k) * (1 + k) + 1 + ((a - q0 - 1) % (1 + k) - 1) := by omega
              have := i2 ((a - q0 - 1) % (1 + k) - 1) (by omega)
              rw [← ea9] at this
              show F.heap[a]? = some (vp_cell _ _)
              rw [this]
              exact congrArg some (arrV_new (cA .boolean) ll (.int 0))
          · obtain ⟨y1, y2⟩ := h1 a cx hx
            exact ⟨y1, y2.kept (g4 (by have := y2.lt; omega))⟩
      obtain ⟨t, a1, b1⟩ := kk F.heap locs (cells + 1 + n * (1 + k)) (slots + n + n * (k + k * ll)) lsR hH hl hS (by show _ = h.2.2.1 + 1 + n * (1 + k); omega) (by show _ = h.2.2.2 + n + n * (k + k * ll); omega) F rfl X'
      refine ⟨t, step t ?_, b1⟩
      have e1 : T.heap.size = q0 := by rw [hT]; exact hsz
      rw [e1]
      exact a1
    · cases hv
  · cases hv
set_option maxHeartbeats 2000000 in
theorem z_S_multianewarray {idx dims : Nat} (hF : z_FR mi p l s m args meth c) (hE : z_EV D cA ra adV HB g s) (hdg : decode c.code pc = .ok (.multianewarray idx dims, n)) (hn : z_len (.multianewarray idx dims) = 0 ∨ n = z_len (.multianewarray idx dims)) (hop : z_op g mi pc (.multianewarray idx dims) ls st h = some (.inl (.inl (pc', ls', st', h'))))
    (hr : z_HR D cA HB h H) (hl : z_LR ra lsR ls) (hS : ∀ q ∈ locs, HB.size ≤ q.base) (hc : cells + c0 = h.2.2.1) (hs : slots + s0 = h.2.2.2) (hcR : h'.2.2.1 ≤ R.cells + c0) (hsR : h'.2.2.2 ≤ R.slots + s0) (hRf : 10 ≤ R.frames) (hRl : 600 ≤ R.locals)
    (kk : z_KK p l e R s m args below meth c Q D cA ra HB c0 s0 pc' ls' st' h') : W p l e R s m args below meth c H locs cells slots Q (F0 m pc lsR (st.map (z_rv ra))) := by
  have hn : n = 4 := by simpa [z_len] using hn
  subst hn
  have hts := hF.2.2.1
  have lnk : ∀ {k w : Nat}, z_lookup z_mas (z_own mi, idx) = some (k, w) → (z_maw ((z_own mi, idx), (k, w))).before args s = true := fun hlk => hts _ (z_placesG z_ma0 z_mag _ (List.mem_map_of_mem (f := z_maw) (z_lookup_mem hlk)))
  have hacs := fun j hj => z_placesG z_ac0 z_acg (Cond.arrayClass j) (List.mem_map.mpr hj)
  simp only [z_op] at hop
  split at hop
  · next k nn r =>
    split at hop
    · next wi hlk =>
      split at hop
      · next hd =>
        subst hd
        obtain ⟨q, hv, hop⟩ := Option.bind_eq_some_iff.mp hop
        simp only [z_go, Option.some.injEq, Sum.inl.injEq, Prod.mk.injEq] at hop
        obtain ⟨rfl, rfl, rfl, rfl⟩ := hop
        exact z_ma2S hF hE hdg 0 3 rfl rfl (fun _ q => by cases q) (fun cx M => arrV_new cx M (.int 0)) (by decide) rfl rfl (lnk hlk) hE.2.2.2.2.2.2.2.1.1 (hts _ (hacs _ ⟨_, List.mem_of_getElem? (i := 0) rfl, rfl⟩)) hv hr hl hS hc hs hcR hsR kk
      · cases hop
    · next wi hlk =>
      split at hop
      · next hd =>
        subst hd
        obtain ⟨q, hv, hop⟩ := Option.bind_eq_some_iff.mp hop
        simp only [z_go, Option.some.injEq, Sum.inl.injEq, Prod.mk.injEq] at hop
        obtain ⟨rfl, rfl, rfl, rfl⟩ := hop
        exact z_ma2S hF hE hdg 1 4 rfl rfl (fun _ q => by cases q) (fun cx M => arrV_new cx M (.int 0)) (by decide) rfl rfl (lnk hlk) hE.2.2.2.2.2.2.2.1.2.1 (hts _ (hacs _ ⟨_, List.mem_of_getElem? (i := 1) rfl, rfl⟩)) hv hr hl hS hc hs hcR hsR kk
      · cases hop
    · next wi hlk =>
      split at hop
      · next hd =>
        subst hd
        split at hop
        · next j r =>
          obtain ⟨q, hv, hop⟩ := Option.bind_eq_some_iff.mp hop
          simp only [z_go, Option.some.injEq, Sum.inl.injEq, Prod.mk.injEq] at hop
          obtain ⟨rfl, rfl, rfl, rfl⟩ := hop
          exact z_ma3S hF hE hdg (lnk hlk) (hts _ (hacs _ ⟨_, List.mem_of_getElem? (i := 1) rfl, rfl⟩)) hv hr hl hS hc hs hcR hsR kk
        · cases hop
      · cases hop
    · cases hop
  · cases hop
set_option maxHeartbeats 2000000 in
theorem z_S_anewarray {idx : Nat} (hF : z_FR mi p l s m args meth c) (hE : z_EV D cA ra adV HB g s) (hdg : decode c.code pc = .ok (.anewarray idx, n)) (hn : z_len (.anewarray idx) = 0 ∨ n = z_len (.anewarray idx)) (hop : z_op g mi pc (.anewarray idx) ls st h = some (.inl (.inl (pc', ls', st', h'))))
    (hr : z_HR D cA HB h H) (hl : z_LR ra lsR ls) (hS : ∀ q ∈ locs, HB.size ≤ q.base) (hc : cells + c0 = h.2.2.1) (hs : slots + s0 = h.2.2.2) (hcR : h'.2.2.1 ≤ R.cells + c0) (hsR : h'.2.2.2 ≤ R.slots + s0)
    (kk : z_KK p l e R s m args below meth c Q D cA ra HB c0 s0 pc' ls' st' h') : W p l e R s m args below meth c H locs cells slots Q (F0 m pc lsR (st.map (z_rv ra))) := by
  have hn : n = 3 := by simpa [z_len] using hn
  subst hn
  have hown := z_own_spec hF
  obtain ⟨hx, -, hts, -⟩ := hF
  simp only [z_op] at hop
  split at hop
  · next nn r =>
    split at hop
    · next wi hlk =>
      obtain ⟨q, hv, hop⟩ := Option.bind_eq_some_iff.mp hop
      simp only [z_go, Option.some.injEq, Sum.inl.injEq, Prod.mk.injEq] at hop
      obtain ⟨rfl, rfl, rfl, rfl⟩ := hop
      unfold z_an at hv
      split at hv
      · next q0 hq =>
        split at hv
        · next hk =>
          cases hv
          have hn2 : nn.toNatClampNeg ≤ 1000 := z_big (by omega) hk.2
          have hsz := hr.2.1 q0 hq
          dsimp only at hcR hsR
          have hlink : (Cond.classLink (z_own mi) idx (FieldType.array .int).toString).before args s = true := hts _ (z_placesG z_cc0 z_ccg _ (List.mem_map_of_mem (f := z_ccw) (z_lookup_mem hlk)))
          refine W.anewA hx rfl hown hlink (va_AOA.use hE.2.2.2.2.2.2.2.1.1) rfl hdg rfl (Int32.not_lt.mpr hk.1) (by omega) (by omega) (by omega) fun cX kA comp f1 f2 f3 f4 => ?_
          have hcX : cX = cA (.array .int) := Option.some.inj (f1.symm.trans (hE.1.2 3 _ (z_tyat hE.1 3 rfl)).2)
          subst hcX
          rw [hsz]
          refine kk _ _ _ _ _ (hr.push hq (by rw [Array.size_push, hsz]) (fun y hy => by rw [Array.getElem?_push, if_neg (by omega)]) ?_) hl hS (by show cells + 1 + c0 = h.2.2.1 + 1; omega) (by show slots + nn.toNatClampNeg + s0 = h.2.2.2 + nn.toNatClampNeg; omega)
          show (H.push _)[q0]? = some (vp_cell _ _)
          rw [← hsz, Array.getElem?_push_size, vp_cell_q]
          exact congrArg some (arrV_new (cA (.array .int)) nn.toNatClampNeg .null)
        · cases hv
      · cases hv
    · cases hop
  · cases hop
set_option maxHeartbeats 2000000 in
theorem z_S_checkcast {idx : Nat} (hF : z_FR mi p l s m args meth c) (hE : z_EV D cA ra adV HB g s) (hdg : decode c.code pc = .ok (.checkcast idx, n)) (hn : z_len (.checkcast idx) = 0 ∨ n = z_len (.checkcast idx)) (hop : z_op g mi pc (.checkcast idx) ls st h = some (.inl (.inl (pc', ls', st', h'))))
    (hr : z_HR D cA HB h H) (hl : z_LR ra lsR ls) (hS : ∀ q ∈ locs, HB.size ≤ q.base) (hc : cells + c0 = h.2.2.1) (hs : slots + s0 = h.2.2.2)
    (kk : z_KK p l e R s m args below meth c Q D cA ra HB c0 s0 pc' ls' st' h') : W p l e R s m args below meth c H locs cells slots Q (F0 m pc lsR (st.map (z_rv ra))) := by
  have hn : n = 3 := by simpa [z_len] using hn
  subst hn
  have hown := z_own_spec hF
  obtain ⟨hx, -, hts, -⟩ := hF
  simp only [z_op] at hop
  split at hop
  · next a r =>
    split at hop
    · next k wi hlk =>
      split at hop
      · next hcs =>
        simp only [z_go, Option.some.injEq, Sum.inl.injEq, Prod.mk.injEq] at hop
        obtain ⟨rfl, rfl, rfl, rfl⟩ := hop
        have hlink := hts _ (z_placesG z_cc0 z_ccg _ (List.mem_map_of_mem (f := z_ccw) (z_lookup_mem hlk)))
        unfold z_cst at hcs
        split at hcs
        · next n9 z9 hh =>
          have hk := of_decide_eq_true hcs
          subst hk
          exact va_castA hx rfl hown (nm := "[I") hlink (hr.one hh) 0 rfl (va_nm_int (hE.1.2 0 _ (z_tyat hE.1 0 rfl)).2) hdg (kk _ _ _ _ _ hr hl hS hc hs)
        · next n9 z9 hh =>
          have hk := of_decide_eq_true hcs
          subst hk
          exact va_castA hx rfl hown (nm := "[B") hlink (hr.one hh) 0 rfl (va_nm_byte (hE.1.2 2 _ (z_tyat hE.1 2 rfl)).2) hdg (kk _ _ _ _ _ hr hl hS hc hs)
        · cases hcs
      · cases hop
    · cases hop
  · cases hop
end ZAR
