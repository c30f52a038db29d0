/-! an instruction that goes on within the method: the machine does what the abstract one does -/
section ZOP
variable {p : Program} {l : Launch} {e : Env} {R : Room} {s : State} {m : MethodId} {args : Array Value} {below : List Frame} {meth : Method} {c : Code} {H : Heap} {locs : List Loc} {cells slots : Nat} {Q : State → Prop}
variable {D : va_G} {cA : FieldType → ClassId} {ra adV : Nat → Nat} {HB : Heap} {g : z_G} {mi pc pc' c0 s0 n : Nat} {lsR : Array Slot} {ls ls' st st' : List Value} {h h' : z_H} {i : Instr}
def z_KK (p : Program) (l : Launch) (e : Env) (R : Room) (s : State) (m : MethodId) (args : Array Value) (below : List Frame) (meth : Method) (c : Code) (Q : State → Prop) (D : va_G) (cA : FieldType → ClassId) (ra : Nat → Nat) (HB : Heap) (c0 s0 pc' : Nat) (ls' st' : List Value) (h' : z_H) : Prop :=
  ∀ (H' : Heap) (locs' : List Loc) (cells' slots' : Nat) (lsR' : Array Slot), z_HR D cA HB h' H' → z_LR ra lsR' ls' → (∀ q ∈ locs', HB.size ≤ q.base) → cells' + c0 = h'.2.2.1 → slots' + s0 = h'.2.2.2 → W p l e R s m args below meth c H' locs' cells' slots' Q (F0 m pc' lsR' (st'.map (z_rv ra)))
theorem z_tgt_spec {pc t : Nat} {off : Int} (h : z_tgt pc off = some t) : (pc : Int) + off = (t : Int) := by
  unfold z_tgt at h
  split at h
  · cases h; omega
  · cases h
theorem z_idx_spec {i : Int32} {n : Nat} (h : z_idx i n = true) : vp_in i n := by
  simp only [z_idx, Bool.and_eq_true, Bool.not_eq_true', decide_eq_false_iff_not, decide_eq_true_eq] at h
  intro q
  rcases q with q | q
  · exact h.1 q
  · omega
theorem z_tyat {D : va_G} {cA : FieldType → ClassId} {s : State} (hK : va_K D vwCl (z_tyl.map fun t => (cA t, t)) s) (j : Nat) {t : FieldType} (hj : z_tyl[j]? = some t) : (z_tyl.map fun t => (cA t, t))[j]? = some (cA t, t) := by
  rw [List.getElem?_map, hj]
  rfl
theorem z_ld_spec {ls : List Value} {k : Nat} {b : Bool} {v : Value} (h : z_ld ls k b = some v) : ls[k]? = some v ∧ v ≠ z_un ∧ ((b = true ∧ ∃ x, v = .int x) ∨ (b = false ∧ ((∃ a, v = .ref a) ∨ (∃ a, v = .retAddr a) ∨ v = .null))) := by
  unfold z_ld at h
  split at h
  · next x hx =>
    cases b
    · cases h
    · cases h
      exact ⟨hx, fun q => (by cases q), Or.inl ⟨rfl, x, rfl⟩⟩
  · next x hx =>
    cases b
    · cases h
      exact ⟨hx, fun q => (by cases q), Or.inr ⟨rfl, Or.inl ⟨x, rfl⟩⟩⟩
    · cases h
  · next x hx =>
    cases b
    · cases h
      exact ⟨hx, fun q => (by cases q), Or.inr ⟨rfl, Or.inr (Or.inl ⟨x, rfl⟩)⟩⟩
    · cases h
  · next hx =>
    cases b
    · cases h
      exact ⟨hx, fun q => (by cases q), Or.inr ⟨rfl, Or.inr (Or.inr rfl)⟩⟩
    · cases h
  · cases h
theorem z_isA_spec {v : Value} (h : z_isA v = true) : v = .null ∨ ∃ a, v = .ref a := by
  cases v <;> first | exact Or.inl rfl | exact Or.inr ⟨_, rfl⟩ | (simp [z_isA] at h; done)
theorem z_kn_int {ra : Nat → Nat} {ls : List Value} {k : Nat} {x : Int32} (h : ls[k]? = some (.int x)) : ∃ j : Nat, (z_kn ra ls)[j]? = some (k, .int x) := List.getElem?_of_mem (z_kn_mem (ra := ra) h (fun q => by cases q))
set_option maxHeartbeats 1000000 in
theorem z_S_iconst {k : Int} (hx : p.tables.exec = Jvm.exec) (hdg : decode c.code pc = .ok (.iconst k, n)) (hn : z_len (.iconst k) = 0 ∨ n = z_len (.iconst k)) (hop : z_op g mi pc (.iconst k) ls st h = some (.inl (.inl (pc', ls', st', h'))))
    (hr : z_HR D cA HB h H) (hl : z_LR ra lsR ls) (hS : ∀ q ∈ locs, HB.size ≤ q.base) (hc : cells + c0 = h.2.2.1) (hs : slots + s0 = h.2.2.2)
    (kk : z_KK p l e R s m args below meth c Q D cA ra HB c0 s0 pc' ls' st' h') : W p l e R s m args below meth c H locs cells slots Q (F0 m pc lsR (st.map (z_rv ra))) := by
  have hn : n = 1 := by simpa [z_len] using hn
  subst hn
  simp only [z_op] at hop
  simp only [z_go, Option.some.injEq, Sum.inl.injEq, Prod.mk.injEq] at hop
  obtain ⟨rfl, rfl, rfl, rfl⟩ := hop
  exact lv_iconst hx rfl hdg rfl (kk _ _ _ _ _ hr hl hS hc hs)
set_option maxHeartbeats 1000000 in
theorem z_S_bipush {k : Int} (hx : p.tables.exec = Jvm.exec) (hdg : decode c.code pc = .ok (.bipush k, n)) (hn : z_len (.bipush k) = 0 ∨ n = z_len (.bipush k)) (hop : z_op g mi pc (.bipush k) ls st h = some (.inl (.inl (pc', ls', st', h'))))
    (hr : z_HR D cA HB h H) (hl : z_LR ra lsR ls) (hS : ∀ q ∈ locs, HB.size ≤ q.base) (hc : cells + c0 = h.2.2.1) (hs : slots + s0 = h.2.2.2)
    (kk : z_KK p l e R s m args below meth c Q D cA ra HB c0 s0 pc' ls' st' h') : W p l e R s m args below meth c H locs cells slots Q (F0 m pc lsR (st.map (z_rv ra))) := by
  have hn : n = 2 := by simpa [z_len] using hn
  subst hn
  simp only [z_op] at hop
  simp only [z_go, Option.some.injEq, Sum.inl.injEq, Prod.mk.injEq] at hop
  obtain ⟨rfl, rfl, rfl, rfl⟩ := hop
  exact lv_bipush hx rfl hdg rfl (kk _ _ _ _ _ hr hl hS hc hs)
set_option maxHeartbeats 1000000 in
theorem z_S_sipush {k : Int} (hx : p.tables.exec = Jvm.exec) (hdg : decode c.code pc = .ok (.sipush k, n)) (hn : z_len (.sipush k) = 0 ∨ n = z_len (.sipush k)) (hop : z_op g mi pc (.sipush k) ls st h = some (.inl (.inl (pc', ls', st', h'))))
    (hr : z_HR D cA HB h H) (hl : z_LR ra lsR ls) (hS : ∀ q ∈ locs, HB.size ≤ q.base) (hc : cells + c0 = h.2.2.1) (hs : slots + s0 = h.2.2.2)
    (kk : z_KK p l e R s m args below meth c Q D cA ra HB c0 s0 pc' ls' st' h') : W p l e R s m args below meth c H locs cells slots Q (F0 m pc lsR (st.map (z_rv ra))) := by
  have hn : n = 3 := by simpa [z_len] using hn
  subst hn
  simp only [z_op] at hop
  simp only [z_go, Option.some.injEq, Sum.inl.injEq, Prod.mk.injEq] at hop
  obtain ⟨rfl, rfl, rfl, rfl⟩ := hop
  exact lv_sipush hx rfl hdg rfl (kk _ _ _ _ _ hr hl hS hc hs)
set_option maxHeartbeats 1000000 in
theorem z_S_iload_n {k : Fin 4} (hx : p.tables.exec = Jvm.exec) (hdg : decode c.code pc = .ok (.iload_n k, n)) (hn : z_len (.iload_n k) = 0 ∨ n = z_len (.iload_n k)) (hop : z_op g mi pc (.iload_n k) ls st h = some (.inl (.inl (pc', ls', st', h'))))
    (hr : z_HR D cA HB h H) (hl : z_LR ra lsR ls) (hS : ∀ q ∈ locs, HB.size ≤ q.base) (hc : cells + c0 = h.2.2.1) (hs : slots + s0 = h.2.2.2)
    (kk : z_KK p l e R s m args below meth c Q D cA ra HB c0 s0 pc' ls' st' h') : W p l e R s m args below meth c H locs cells slots Q (F0 m pc lsR (st.map (z_rv ra))) := by
  have hn : n = 1 := by simpa [z_len] using hn
  subst hn
  simp only [z_op] at hop
  obtain ⟨v, hv, hop⟩ := Option.bind_eq_some_iff.mp hop
  simp only [z_go, Option.some.injEq, Sum.inl.injEq, Prod.mk.injEq] at hop
  obtain ⟨rfl, rfl, rfl, rfl⟩ := hop
  obtain ⟨h1, h2, h3⟩ := z_ld_spec hv
  have h4 := hl.get h1 h2
  rcases h3 with ⟨-, x, rfl⟩ | ⟨h3, -⟩
  · exact lv_iload_n hx rfl hdg rfl h4 (kk _ _ _ _ _ hr hl hS hc hs)
  · cases h3
set_option maxHeartbeats 1000000 in
theorem z_S_iload {k : Nat} (hx : p.tables.exec = Jvm.exec) (hdg : decode c.code pc = .ok (.iload k, n)) (hn : z_len (.iload k) = 0 ∨ n = z_len (.iload k)) (hop : z_op g mi pc (.iload k) ls st h = some (.inl (.inl (pc', ls', st', h'))))
    (hr : z_HR D cA HB h H) (hl : z_LR ra lsR ls) (hS : ∀ q ∈ locs, HB.size ≤ q.base) (hc : cells + c0 = h.2.2.1) (hs : slots + s0 = h.2.2.2)
    (kk : z_KK p l e R s m args below meth c Q D cA ra HB c0 s0 pc' ls' st' h') : W p l e R s m args below meth c H locs cells slots Q (F0 m pc lsR (st.map (z_rv ra))) := by
  have hn : n = 2 := by simpa [z_len] using hn
  subst hn
  simp only [z_op] at hop
  obtain ⟨v, hv, hop⟩ := Option.bind_eq_some_iff.mp hop
  simp only [z_go, Option.some.injEq, Sum.inl.injEq, Prod.mk.injEq] at hop
  obtain ⟨rfl, rfl, rfl, rfl⟩ := hop
  obtain ⟨h1, h2, h3⟩ := z_ld_spec hv
  have h4 := hl.get h1 h2
  rcases h3 with ⟨-, x, rfl⟩ | ⟨h3, -⟩
  · exact lv_iload hx rfl hdg h4 (kk _ _ _ _ _ hr hl hS hc hs)
  · cases h3
set_option maxHeartbeats 1000000 in
theorem z_S_aload_n {k : Fin 4} (hx : p.tables.exec = Jvm.exec) (hdg : decode c.code pc = .ok (.aload_n k, n)) (hn : z_len (.aload_n k) = 0 ∨ n = z_len (.aload_n k)) (hop : z_op g mi pc (.aload_n k) ls st h = some (.inl (.inl (pc', ls', st', h'))))
    (hr : z_HR D cA HB h H) (hl : z_LR ra lsR ls) (hS : ∀ q ∈ locs, HB.size ≤ q.base) (hc : cells + c0 = h.2.2.1) (hs : slots + s0 = h.2.2.2)
    (kk : z_KK p l e R s m args below meth c Q D cA ra HB c0 s0 pc' ls' st' h') : W p l e R s m args below meth c H locs cells slots Q (F0 m pc lsR (st.map (z_rv ra))) := by
  have hn : n = 1 := by simpa [z_len] using hn
  subst hn
  simp only [z_op] at hop
  obtain ⟨v, hv, hop⟩ := Option.bind_eq_some_iff.mp hop
  simp only [z_go, Option.some.injEq, Sum.inl.injEq, Prod.mk.injEq] at hop
  obtain ⟨rfl, rfl, rfl, rfl⟩ := hop
  obtain ⟨h1, h2, h3⟩ := z_ld_spec hv
  have h4 := hl.get h1 h2
  rcases h3 with ⟨h3, -⟩ | ⟨-, ⟨x, rfl⟩ | ⟨x, rfl⟩ | rfl⟩
  · cases h3
  · exact lv_aload_n hx rfl hdg rfl h4 (kk _ _ _ _ _ hr hl hS hc hs)
  · exact lv_aload_n hx rfl hdg rfl h4 (kk _ _ _ _ _ hr hl hS hc hs)
  · exact lv_aload_nN hx rfl hdg rfl h4 (kk _ _ _ _ _ hr hl hS hc hs)
set_option maxHeartbeats 1000000 in
theorem z_S_aload {k : Nat} (hx : p.tables.exec = Jvm.exec) (hdg : decode c.code pc = .ok (.aload k, n)) (hn : z_len (.aload k) = 0 ∨ n = z_len (.aload k)) (hop : z_op g mi pc (.aload k) ls st h = some (.inl (.inl (pc', ls', st', h'))))
    (hr : z_HR D cA HB h H) (hl : z_LR ra lsR ls) (hS : ∀ q ∈ locs, HB.size ≤ q.base) (hc : cells + c0 = h.2.2.1) (hs : slots + s0 = h.2.2.2)
    (kk : z_KK p l e R s m args below meth c Q D cA ra HB c0 s0 pc' ls' st' h') : W p l e R s m args below meth c H locs cells slots Q (F0 m pc lsR (st.map (z_rv ra))) := by
  have hn : n = 2 := by simpa [z_len] using hn
  subst hn
  simp only [z_op] at hop
  obtain ⟨v, hv, hop⟩ := Option.bind_eq_some_iff.mp hop
  simp only [z_go, Option.some.injEq, Sum.inl.injEq, Prod.mk.injEq] at hop
  obtain ⟨rfl, rfl, rfl, rfl⟩ := hop
  obtain ⟨h1, h2, h3⟩ := z_ld_spec hv
  have h4 := hl.get h1 h2
  rcases h3 with ⟨h3, -⟩ | ⟨-, ⟨x, rfl⟩ | ⟨x, rfl⟩ | rfl⟩
  · cases h3
  · exact lv_aload hx rfl hdg h4 (kk _ _ _ _ _ hr hl hS hc hs)
  · exact lv_aload hx rfl hdg h4 (kk _ _ _ _ _ hr hl hS hc hs)
  · exact lv_aloadN hx rfl hdg h4 (kk _ _ _ _ _ hr hl hS hc hs)
set_option maxHeartbeats 1000000 in
theorem z_S_istore_n {k : Fin 4} (hx : p.tables.exec = Jvm.exec) (hdg : decode c.code pc = .ok (.istore_n k, n)) (hn : z_len (.istore_n k) = 0 ∨ n = z_len (.istore_n k)) (hop : z_op g mi pc (.istore_n k) ls st h = some (.inl (.inl (pc', ls', st', h'))))
    (hr : z_HR D cA HB h H) (hl : z_LR ra lsR ls) (hS : ∀ q ∈ locs, HB.size ≤ q.base) (hc : cells + c0 = h.2.2.1) (hs : slots + s0 = h.2.2.2)
    (kk : z_KK p l e R s m args below meth c Q D cA ra HB c0 s0 pc' ls' st' h') : W p l e R s m args below meth c H locs cells slots Q (F0 m pc lsR (st.map (z_rv ra))) := by
  have hn : n = 1 := by simpa [z_len] using hn
  subst hn
  simp only [z_op] at hop
  split at hop
  · split at hop
    · rename_i hk
      simp only [z_go, Option.some.injEq, Sum.inl.injEq, Prod.mk.injEq] at hop
      obtain ⟨rfl, rfl, rfl, rfl⟩ := hop
      exact lv_istore_n hx rfl hdg rfl hl.1 hk rfl fun ls2 h2 => kk _ _ _ _ _ hr (hl.set hk rfl (fun _ => rfl) h2) hS hc hs
    · cases hop
  · cases hop
set_option maxHeartbeats 1000000 in
theorem z_S_istore {k : Nat} (hx : p.tables.exec = Jvm.exec) (hdg : decode c.code pc = .ok (.istore k, n)) (hn : z_len (.istore k) = 0 ∨ n = z_len (.istore k)) (hop : z_op g mi pc (.istore k) ls st h = some (.inl (.inl (pc', ls', st', h'))))
    (hr : z_HR D cA HB h H) (hl : z_LR ra lsR ls) (hS : ∀ q ∈ locs, HB.size ≤ q.base) (hc : cells + c0 = h.2.2.1) (hs : slots + s0 = h.2.2.2)
    (kk : z_KK p l e R s m args below meth c Q D cA ra HB c0 s0 pc' ls' st' h') : W p l e R s m args below meth c H locs cells slots Q (F0 m pc lsR (st.map (z_rv ra))) := by
  have hn : n = 2 := by simpa [z_len] using hn
  subst hn
  simp only [z_op] at hop
  split at hop
  · split at hop
    · rename_i hk
      simp only [z_go, Option.some.injEq, Sum.inl.injEq, Prod.mk.injEq] at hop
      obtain ⟨rfl, rfl, rfl, rfl⟩ := hop
      exact lv_istore hx rfl hdg hl.1 hk rfl fun ls2 h2 => kk _ _ _ _ _ hr (hl.set hk rfl (fun _ => rfl) h2) hS hc hs
    · cases hop
  · cases hop
set_option maxHeartbeats 1000000 in
theorem z_S_astore_n {k : Fin 4} (hx : p.tables.exec = Jvm.exec) (hdg : decode c.code pc = .ok (.astore_n k, n)) (hn : z_len (.astore_n k) = 0 ∨ n = z_len (.astore_n k)) (hop : z_op g mi pc (.astore_n k) ls st h = some (.inl (.inl (pc', ls', st', h'))))
    (hr : z_HR D cA HB h H) (hl : z_LR ra lsR ls) (hS : ∀ q ∈ locs, HB.size ≤ q.base) (hc : cells + c0 = h.2.2.1) (hs : slots + s0 = h.2.2.2)
    (kk : z_KK p l e R s m args below meth c Q D cA ra HB c0 s0 pc' ls' st' h') : W p l e R s m args below meth c H locs cells slots Q (F0 m pc lsR (st.map (z_rv ra))) := by
  have hn : n = 1 := by simpa [z_len] using hn
  subst hn
  simp only [z_op] at hop
  split at hop
  · split at hop
    · rename_i hk
      simp only [z_go, Option.some.injEq, Sum.inl.injEq, Prod.mk.injEq] at hop
      obtain ⟨rfl, rfl, rfl, rfl⟩ := hop
      rcases z_isA_spec hk.1 with rfl | ⟨x, rfl⟩
      · exact lv_astore_nN hx rfl hdg rfl hl.1 hk.2 rfl fun ls2 h2 => kk _ _ _ _ _ hr (hl.set hk.2 rfl (fun _ => rfl) h2) hS hc hs
      · exact lv_astore_n hx rfl hdg rfl hl.1 hk.2 rfl fun ls2 h2 => kk _ _ _ _ _ hr (hl.set hk.2 rfl (fun _ => rfl) h2) hS hc hs
    · cases hop
  · cases hop
set_option maxHeartbeats 1000000 in
theorem z_S_astore {k : Nat} (hx : p.tables.exec = Jvm.exec) (hdg : decode c.code pc = .ok (.astore k, n)) (hn : z_len (.astore k) = 0 ∨ n = z_len (.astore k)) (hop : z_op g mi pc (.astore k) ls st h = some (.inl (.inl (pc', ls', st', h'))))
    (hr : z_HR D cA HB h H) (hl : z_LR ra lsR ls) (hS : ∀ q ∈ locs, HB.size ≤ q.base) (hc : cells + c0 = h.2.2.1) (hs : slots + s0 = h.2.2.2)
    (kk : z_KK p l e R s m args below meth c Q D cA ra HB c0 s0 pc' ls' st' h') : W p l e R s m args below meth c H locs cells slots Q (F0 m pc lsR (st.map (z_rv ra))) := by
  have hn : n = 2 := by simpa [z_len] using hn
  subst hn
  simp only [z_op] at hop
  split at hop
  · split at hop
    · rename_i hk
      simp only [z_go, Option.some.injEq, Sum.inl.injEq, Prod.mk.injEq] at hop
      obtain ⟨rfl, rfl, rfl, rfl⟩ := hop
      rcases z_isA_spec hk.1 with rfl | ⟨x, rfl⟩
      · exact lv_astoreN hx rfl hdg hl.1 hk.2 rfl fun ls2 h2 => kk _ _ _ _ _ hr (hl.set hk.2 rfl (fun _ => rfl) h2) hS hc hs
      · exact lv_astore hx rfl hdg hl.1 hk.2 rfl fun ls2 h2 => kk _ _ _ _ _ hr (hl.set hk.2 rfl (fun _ => rfl) h2) hS hc hs
    · cases hop
  · cases hop
set_option maxHeartbeats 1000000 in
theorem z_S_iinc {k : Nat} {d : Int} (hx : p.tables.exec = Jvm.exec) (hdg : decode c.code pc = .ok (.iinc k d, n)) (hn : z_len (.iinc k d) = 0 ∨ n = z_len (.iinc k d)) (hop : z_op g mi pc (.iinc k d) ls st h = some (.inl (.inl (pc', ls', st', h'))))
    (hr : z_HR D cA HB h H) (hl : z_LR ra lsR ls) (hS : ∀ q ∈ locs, HB.size ≤ q.base) (hc : cells + c0 = h.2.2.1) (hs : slots + s0 = h.2.2.2)
    (kk : z_KK p l e R s m args below meth c Q D cA ra HB c0 s0 pc' ls' st' h') : W p l e R s m args below meth c H locs cells slots Q (F0 m pc lsR (st.map (z_rv ra))) := by
  have hn : n = 3 := by simpa [z_len] using hn
  subst hn
  simp only [z_op] at hop
  split at hop
  · rename_i x hx1
    simp only [z_go, Option.some.injEq, Sum.inl.injEq, Prod.mk.injEq] at hop
    obtain ⟨rfl, rfl, rfl, rfl⟩ := hop
    obtain ⟨j, hj⟩ := z_kn_int (ra := ra) hx1
    have hk := (List.getElem?_eq_some_iff.mp hx1).1
    exact lv_iinc hx rfl hdg hl.1 hj rfl hk rfl fun ls2 h2 => kk _ _ _ _ _ hr (hl.set hk rfl (fun _ => rfl) h2) hS hc hs
  · cases hop
set_option maxHeartbeats 1000000 in
theorem z_S_iadd (hx : p.tables.exec = Jvm.exec) (hdg : decode c.code pc = .ok (.iadd, n)) (hn : z_len (.iadd) = 0 ∨ n = z_len (.iadd)) (hop : z_op g mi pc (.iadd) ls st h = some (.inl (.inl (pc', ls', st', h'))))
    (hr : z_HR D cA HB h H) (hl : z_LR ra lsR ls) (hS : ∀ q ∈ locs, HB.size ≤ q.base) (hc : cells + c0 = h.2.2.1) (hs : slots + s0 = h.2.2.2)
    (kk : z_KK p l e R s m args below meth c Q D cA ra HB c0 s0 pc' ls' st' h') : W p l e R s m args below meth c H locs cells slots Q (F0 m pc lsR (st.map (z_rv ra))) := by
  have hn : n = 1 := by simpa [z_len] using hn
  subst hn
  simp only [z_op, z_bin] at hop
  split at hop
  · rename_i h9 
    cases h9
    simp only [z_go, Option.some.injEq, Sum.inl.injEq, Prod.mk.injEq] at hop
    obtain ⟨rfl, rfl, rfl, rfl⟩ := hop
    exact lv_iadd hx rfl hdg (kk _ _ _ _ _ hr hl hS hc hs)
  · cases hop
set_option maxHeartbeats 1000000 in
theorem z_S_isub (hx : p.tables.exec = Jvm.exec) (hdg : decode c.code pc = .ok (.isub, n)) (hn : z_len (.isub) = 0 ∨ n = z_len (.isub)) (hop : z_op g mi pc (.isub) ls st h = some (.inl (.inl (pc', ls', st', h'))))
    (hr : z_HR D cA HB h H) (hl : z_LR ra lsR ls) (hS : ∀ q ∈ locs, HB.size ≤ q.base) (hc : cells + c0 = h.2.2.1) (hs : slots + s0 = h.2.2.2)
    (kk : z_KK p l e R s m args below meth c Q D cA ra HB c0 s0 pc' ls' st' h') : W p l e R s m args below meth c H locs cells slots Q (F0 m pc lsR (st.map (z_rv ra))) := by
  have hn : n = 1 := by simpa [z_len] using hn
  subst hn
  simp only [z_op, z_bin] at hop
  split at hop
  · rename_i h9 
    cases h9
    simp only [z_go, Option.some.injEq, Sum.inl.injEq, Prod.mk.injEq] at hop
    obtain ⟨rfl, rfl, rfl, rfl⟩ := hop
    exact lv_isub hx rfl hdg (kk _ _ _ _ _ hr hl hS hc hs)
  · cases hop
set_option maxHeartbeats 1000000 in
theorem z_S_imul (hx : p.tables.exec = Jvm.exec) (hdg : decode c.code pc = .ok (.imul, n)) (hn : z_len (.imul) = 0 ∨ n = z_len (.imul)) (hop : z_op g mi pc (.imul) ls st h = some (.inl (.inl (pc', ls', st', h'))))
    (hr : z_HR D cA HB h H) (hl : z_LR ra lsR ls) (hS : ∀ q ∈ locs, HB.size ≤ q.base) (hc : cells + c0 = h.2.2.1) (hs : slots + s0 = h.2.2.2)
    (kk : z_KK p l e R s m args below meth c Q D cA ra HB c0 s0 pc' ls' st' h') : W p l e R s m args below meth c H locs cells slots Q (F0 m pc lsR (st.map (z_rv ra))) := by
  have hn : n = 1 := by simpa [z_len] using hn
  subst hn
  simp only [z_op, z_bin] at hop
  split at hop
  · rename_i h9 
    cases h9
    simp only [z_go, Option.some.injEq, Sum.inl.injEq, Prod.mk.injEq] at hop
    obtain ⟨rfl, rfl, rfl, rfl⟩ := hop
    exact lv_imul hx rfl hdg (kk _ _ _ _ _ hr hl hS hc hs)
  · cases hop
set_option maxHeartbeats 1000000 in
theorem z_S_iand (hx : p.tables.exec = Jvm.exec) (hdg : decode c.code pc = .ok (.iand, n)) (hn : z_len (.iand) = 0 ∨ n = z_len (.iand)) (hop : z_op g mi pc (.iand) ls st h = some (.inl (.inl (pc', ls', st', h'))))
    (hr : z_HR D cA HB h H) (hl : z_LR ra lsR ls) (hS : ∀ q ∈ locs, HB.size ≤ q.base) (hc : cells + c0 = h.2.2.1) (hs : slots + s0 = h.2.2.2)
    (kk : z_KK p l e R s m args below meth c Q D cA ra HB c0 s0 pc' ls' st' h') : W p l e R s m args below meth c H locs cells slots Q (F0 m pc lsR (st.map (z_rv ra))) := by
  have hn : n = 1 := by simpa [z_len] using hn
  subst hn
  simp only [z_op, z_bin] at hop
  split at hop
  · rename_i h9 
    cases h9
    simp only [z_go, Option.some.injEq, Sum.inl.injEq, Prod.mk.injEq] at hop
    obtain ⟨rfl, rfl, rfl, rfl⟩ := hop
    exact lv_iand hx rfl hdg (kk _ _ _ _ _ hr hl hS hc hs)
  · cases hop
set_option maxHeartbeats 1000000 in
theorem z_S_ior (hx : p.tables.exec = Jvm.exec) (hdg : decode c.code pc = .ok (.ior, n)) (hn : z_len (.ior) = 0 ∨ n = z_len (.ior)) (hop : z_op g mi pc (.ior) ls st h = some (.inl (.inl (pc', ls', st', h'))))
    (hr : z_HR D cA HB h H) (hl : z_LR ra lsR ls) (hS : ∀ q ∈ locs, HB.size ≤ q.base) (hc : cells + c0 = h.2.2.1) (hs : slots + s0 = h.2.2.2)
    (kk : z_KK p l e R s m args below meth c Q D cA ra HB c0 s0 pc' ls' st' h') : W p l e R s m args below meth c H locs cells slots Q (F0 m pc lsR (st.map (z_rv ra))) := by
  have hn : n = 1 := by simpa [z_len] using hn
  subst hn
  simp only [z_op, z_bin] at hop
  split at hop
  · rename_i h9 
    cases h9
    simp only [z_go, Option.some.injEq, Sum.inl.injEq, Prod.mk.injEq] at hop
    obtain ⟨rfl, rfl, rfl, rfl⟩ := hop
    exact lv_ior hx rfl hdg (kk _ _ _ _ _ hr hl hS hc hs)
  · cases hop
set_option maxHeartbeats 1000000 in
theorem z_S_ixor (hx : p.tables.exec = Jvm.exec) (hdg : decode c.code pc = .ok (.ixor, n)) (hn : z_len (.ixor) = 0 ∨ n = z_len (.ixor)) (hop : z_op g mi pc (.ixor) ls st h = some (.inl (.inl (pc', ls', st', h'))))
    (hr : z_HR D cA HB h H) (hl : z_LR ra lsR ls) (hS : ∀ q ∈ locs, HB.size ≤ q.base) (hc : cells + c0 = h.2.2.1) (hs : slots + s0 = h.2.2.2)
    (kk : z_KK p l e R s m args below meth c Q D cA ra HB c0 s0 pc' ls' st' h') : W p l e R s m args below meth c H locs cells slots Q (F0 m pc lsR (st.map (z_rv ra))) := by
  have hn : n = 1 := by simpa [z_len] using hn
  subst hn
  simp only [z_op, z_bin] at hop
  split at hop
  · rename_i h9 
    cases h9
    simp only [z_go, Option.some.injEq, Sum.inl.injEq, Prod.mk.injEq] at hop
    obtain ⟨rfl, rfl, rfl, rfl⟩ := hop
    exact lv_ixor hx rfl hdg (kk _ _ _ _ _ hr hl hS hc hs)
  · cases hop
set_option maxHeartbeats 1000000 in
theorem z_S_ishl (hx : p.tables.exec = Jvm.exec) (hdg : decode c.code pc = .ok (.ishl, n)) (hn : z_len (.ishl) = 0 ∨ n = z_len (.ishl)) (hop : z_op g mi pc (.ishl) ls st h = some (.inl (.inl (pc', ls', st', h'))))
    (hr : z_HR D cA HB h H) (hl : z_LR ra lsR ls) (hS : ∀ q ∈ locs, HB.size ≤ q.base) (hc : cells + c0 = h.2.2.1) (hs : slots + s0 = h.2.2.2)
    (kk : z_KK p l e R s m args below meth c Q D cA ra HB c0 s0 pc' ls' st' h') : W p l e R s m args below meth c H locs cells slots Q (F0 m pc lsR (st.map (z_rv ra))) := by
  have hn : n = 1 := by simpa [z_len] using hn
  subst hn
  simp only [z_op, z_bin] at hop
  split at hop
  · rename_i h9 
    cases h9
    simp only [z_go, Option.some.injEq, Sum.inl.injEq, Prod.mk.injEq] at hop
    obtain ⟨rfl, rfl, rfl, rfl⟩ := hop
    exact lv_ishl hx rfl hdg (kk _ _ _ _ _ hr hl hS hc hs)
  · cases hop
set_option maxHeartbeats 1000000 in
theorem z_S_ishr (hx : p.tables.exec = Jvm.exec) (hdg : decode c.code pc = .ok (.ishr, n)) (hn : z_len (.ishr) = 0 ∨ n = z_len (.ishr)) (hop : z_op g mi pc (.ishr) ls st h = some (.inl (.inl (pc', ls', st', h'))))
    (hr : z_HR D cA HB h H) (hl : z_LR ra lsR ls) (hS : ∀ q ∈ locs, HB.size ≤ q.base) (hc : cells + c0 = h.2.2.1) (hs : slots + s0 = h.2.2.2)
    (kk : z_KK p l e R s m args below meth c Q D cA ra HB c0 s0 pc' ls' st' h') : W p l e R s m args below meth c H locs cells slots Q (F0 m pc lsR (st.map (z_rv ra))) := by
  have hn : n = 1 := by simpa [z_len] using hn
  subst hn
  simp only [z_op, z_bin] at hop
  split at hop
  · rename_i h9 
    cases h9
    simp only [z_go, Option.some.injEq, Sum.inl.injEq, Prod.mk.injEq] at hop
    obtain ⟨rfl, rfl, rfl, rfl⟩ := hop
    exact lv_ishr hx rfl hdg (kk _ _ _ _ _ hr hl hS hc hs)
  · cases hop
set_option maxHeartbeats 1000000 in
theorem z_S_iushr (hx : p.tables.exec = Jvm.exec) (hdg : decode c.code pc = .ok (.iushr, n)) (hn : z_len (.iushr) = 0 ∨ n = z_len (.iushr)) (hop : z_op g mi pc (.iushr) ls st h = some (.inl (.inl (pc', ls', st', h'))))
    (hr : z_HR D cA HB h H) (hl : z_LR ra lsR ls) (hS : ∀ q ∈ locs, HB.size ≤ q.base) (hc : cells + c0 = h.2.2.1) (hs : slots + s0 = h.2.2.2)
    (kk : z_KK p l e R s m args below meth c Q D cA ra HB c0 s0 pc' ls' st' h') : W p l e R s m args below meth c H locs cells slots Q (F0 m pc lsR (st.map (z_rv ra))) := by
  have hn : n = 1 := by simpa [z_len] using hn
  subst hn
  simp only [z_op, z_bin] at hop
  split at hop
  · rename_i h9 
    cases h9
    simp only [z_go, Option.some.injEq, Sum.inl.injEq, Prod.mk.injEq] at hop
    obtain ⟨rfl, rfl, rfl, rfl⟩ := hop
    exact lv_iushr hx rfl hdg rfl (kk _ _ _ _ _ hr hl hS hc hs)
  · cases hop
set_option maxHeartbeats 1000000 in
theorem z_S_idiv (hx : p.tables.exec = Jvm.exec) (hdg : decode c.code pc = .ok (.idiv, n)) (hn : z_len (.idiv) = 0 ∨ n = z_len (.idiv)) (hop : z_op g mi pc (.idiv) ls st h = some (.inl (.inl (pc', ls', st', h'))))
    (hr : z_HR D cA HB h H) (hl : z_LR ra lsR ls) (hS : ∀ q ∈ locs, HB.size ≤ q.base) (hc : cells + c0 = h.2.2.1) (hs : slots + s0 = h.2.2.2)
    (kk : z_KK p l e R s m args below meth c Q D cA ra HB c0 s0 pc' ls' st' h') : W p l e R s m args below meth c H locs cells slots Q (F0 m pc lsR (st.map (z_rv ra))) := by
  have hn : n = 1 := by simpa [z_len] using hn
  subst hn
  simp only [z_op] at hop
  split at hop
  · split at hop
    · cases hop
    · rename_i hne
      simp only [z_go, Option.some.injEq, Sum.inl.injEq, Prod.mk.injEq] at hop
      obtain ⟨rfl, rfl, rfl, rfl⟩ := hop
      exact lv_idiv hx rfl hdg hne (kk _ _ _ _ _ hr hl hS hc hs)
  · cases hop
set_option maxHeartbeats 1000000 in
theorem z_S_irem (hx : p.tables.exec = Jvm.exec) (hdg : decode c.code pc = .ok (.irem, n)) (hn : z_len (.irem) = 0 ∨ n = z_len (.irem)) (hop : z_op g mi pc (.irem) ls st h = some (.inl (.inl (pc', ls', st', h'))))
    (hr : z_HR D cA HB h H) (hl : z_LR ra lsR ls) (hS : ∀ q ∈ locs, HB.size ≤ q.base) (hc : cells + c0 = h.2.2.1) (hs : slots + s0 = h.2.2.2)
    (kk : z_KK p l e R s m args below meth c Q D cA ra HB c0 s0 pc' ls' st' h') : W p l e R s m args below meth c H locs cells slots Q (F0 m pc lsR (st.map (z_rv ra))) := by
  have hn : n = 1 := by simpa [z_len] using hn
  subst hn
  simp only [z_op] at hop
  split at hop
  · split at hop
    · cases hop
    · rename_i hne
      simp only [z_go, Option.some.injEq, Sum.inl.injEq, Prod.mk.injEq] at hop
      obtain ⟨rfl, rfl, rfl, rfl⟩ := hop
      exact lv_irem hx rfl hdg hne (kk _ _ _ _ _ hr hl hS hc hs)
  · cases hop
set_option maxHeartbeats 1000000 in
theorem z_S_i2b (hx : p.tables.exec = Jvm.exec) (hdg : decode c.code pc = .ok (.i2b, n)) (hn : z_len (.i2b) = 0 ∨ n = z_len (.i2b)) (hop : z_op g mi pc (.i2b) ls st h = some (.inl (.inl (pc', ls', st', h'))))
    (hr : z_HR D cA HB h H) (hl : z_LR ra lsR ls) (hS : ∀ q ∈ locs, HB.size ≤ q.base) (hc : cells + c0 = h.2.2.1) (hs : slots + s0 = h.2.2.2)
    (kk : z_KK p l e R s m args below meth c Q D cA ra HB c0 s0 pc' ls' st' h') : W p l e R s m args below meth c H locs cells slots Q (F0 m pc lsR (st.map (z_rv ra))) := by
  have hn : n = 1 := by simpa [z_len] using hn
  subst hn
  simp only [z_op] at hop
  split at hop
  · simp only [z_go, Option.some.injEq, Sum.inl.injEq, Prod.mk.injEq] at hop
    obtain ⟨rfl, rfl, rfl, rfl⟩ := hop
    exact lv_i2b hx rfl hdg rfl (kk _ _ _ _ _ hr hl hS hc hs)
  · cases hop
set_option maxHeartbeats 1000000 in
theorem z_S_dup (hx : p.tables.exec = Jvm.exec) (hdg : decode c.code pc = .ok (.dup, n)) (hn : z_len (.dup) = 0 ∨ n = z_len (.dup)) (hop : z_op g mi pc (.dup) ls st h = some (.inl (.inl (pc', ls', st', h'))))
    (hr : z_HR D cA HB h H) (hl : z_LR ra lsR ls) (hS : ∀ q ∈ locs, HB.size ≤ q.base) (hc : cells + c0 = h.2.2.1) (hs : slots + s0 = h.2.2.2)
    (kk : z_KK p l e R s m args below meth c Q D cA ra HB c0 s0 pc' ls' st' h') : W p l e R s m args below meth c H locs cells slots Q (F0 m pc lsR (st.map (z_rv ra))) := by
  have hn : n = 1 := by simpa [z_len] using hn
  subst hn
  simp only [z_op] at hop
  split at hop
  · split at hop
    · rename_i hv
      simp only [z_go, Option.some.injEq, Sum.inl.injEq, Prod.mk.injEq] at hop
      obtain ⟨rfl, rfl, rfl, rfl⟩ := hop
      exact lv_dup hx rfl hdg ((z_rv_cat ra _).trans hv) (kk _ _ _ _ _ hr hl hS hc hs)
    · cases hop
  · cases hop
set_option maxHeartbeats 1000000 in
theorem z_S_pop (hx : p.tables.exec = Jvm.exec) (hdg : decode c.code pc = .ok (.pop, n)) (hn : z_len (.pop) = 0 ∨ n = z_len (.pop)) (hop : z_op g mi pc (.pop) ls st h = some (.inl (.inl (pc', ls', st', h'))))
    (hr : z_HR D cA HB h H) (hl : z_LR ra lsR ls) (hS : ∀ q ∈ locs, HB.size ≤ q.base) (hc : cells + c0 = h.2.2.1) (hs : slots + s0 = h.2.2.2)
    (kk : z_KK p l e R s m args below meth c Q D cA ra HB c0 s0 pc' ls' st' h') : W p l e R s m args below meth c H locs cells slots Q (F0 m pc lsR (st.map (z_rv ra))) := by
  have hn : n = 1 := by simpa [z_len] using hn
  subst hn
  simp only [z_op] at hop
  split at hop
  · split at hop
    · rename_i hv
      simp only [z_go, Option.some.injEq, Sum.inl.injEq, Prod.mk.injEq] at hop
      obtain ⟨rfl, rfl, rfl, rfl⟩ := hop
      exact lv_pop hx rfl hdg ((z_rv_cat ra _).trans hv) (kk _ _ _ _ _ hr hl hS hc hs)
    · cases hop
  · cases hop
set_option maxHeartbeats 1000000 in
theorem z_S_dup2 (hx : p.tables.exec = Jvm.exec) (hdg : decode c.code pc = .ok (.dup2, n)) (hn : z_len (.dup2) = 0 ∨ n = z_len (.dup2)) (hop : z_op g mi pc (.dup2) ls st h = some (.inl (.inl (pc', ls', st', h'))))
    (hr : z_HR D cA HB h H) (hl : z_LR ra lsR ls) (hS : ∀ q ∈ locs, HB.size ≤ q.base) (hc : cells + c0 = h.2.2.1) (hs : slots + s0 = h.2.2.2)
    (kk : z_KK p l e R s m args below meth c Q D cA ra HB c0 s0 pc' ls' st' h') : W p l e R s m args below meth c H locs cells slots Q (F0 m pc lsR (st.map (z_rv ra))) := by
  have hn : n = 1 := by simpa [z_len] using hn
  subst hn
  simp only [z_op] at hop
  split at hop
  · split at hop
    · rename_i hv
      simp only [z_go, Option.some.injEq, Sum.inl.injEq, Prod.mk.injEq] at hop
      obtain ⟨rfl, rfl, rfl, rfl⟩ := hop
      exact lv_dup2_11 hx rfl hdg ((z_rv_cat ra _).trans hv.1) ((z_rv_cat ra _).trans hv.2) (kk _ _ _ _ _ hr hl hS hc hs)
    · cases hop
  · cases hop
set_option maxHeartbeats 1000000 in
theorem z_S_if_eq {off : Int} (hx : p.tables.exec = Jvm.exec) (hdg : decode c.code pc = .ok (.ifCond .eq off, n)) (hn : z_len (.ifCond .eq off) = 0 ∨ n = z_len (.ifCond .eq off)) (hop : z_op g mi pc (.ifCond .eq off) ls st h = some (.inl (.inl (pc', ls', st', h'))))
    (hr : z_HR D cA HB h H) (hl : z_LR ra lsR ls) (hS : ∀ q ∈ locs, HB.size ≤ q.base) (hc : cells + c0 = h.2.2.1) (hs : slots + s0 = h.2.2.2)
    (kk : z_KK p l e R s m args below meth c Q D cA ra HB c0 s0 pc' ls' st' h') : W p l e R s m args below meth c H locs cells slots Q (F0 m pc lsR (st.map (z_rv ra))) := by
  have hn : n = 3 := by simpa [z_len] using hn
  subst hn
  simp only [z_op] at hop
  split at hop
  · obtain ⟨t, ht, hop⟩ := Option.bind_eq_some_iff.mp hop
    have ht := z_tgt_spec ht
    refine lv_if_eq hx rfl hdg ht (fun q => ?_) (fun q => ?_)
    · rw [if_pos (by simpa [z_cmp] using q)] at hop
      simp only [z_go, Option.some.injEq, Sum.inl.injEq, Prod.mk.injEq] at hop
      obtain ⟨rfl, rfl, rfl, rfl⟩ := hop
      exact kk _ _ _ _ _ hr hl hS hc hs
    · rw [if_neg (by simpa [z_cmp] using q)] at hop
      simp only [z_go, Option.some.injEq, Sum.inl.injEq, Prod.mk.injEq] at hop
      obtain ⟨rfl, rfl, rfl, rfl⟩ := hop
      exact kk _ _ _ _ _ hr hl hS hc hs
  · cases hop
set_option maxHeartbeats 1000000 in
theorem z_S_icmp_eq {off : Int} (hx : p.tables.exec = Jvm.exec) (hdg : decode c.code pc = .ok (.if_icmp .eq off, n)) (hn : z_len (.if_icmp .eq off) = 0 ∨ n = z_len (.if_icmp .eq off)) (hop : z_op g mi pc (.if_icmp .eq off) ls st h = some (.inl (.inl (pc', ls', st', h'))))
    (hr : z_HR D cA HB h H) (hl : z_LR ra lsR ls) (hS : ∀ q ∈ locs, HB.size ≤ q.base) (hc : cells + c0 = h.2.2.1) (hs : slots + s0 = h.2.2.2)
    (kk : z_KK p l e R s m args below meth c Q D cA ra HB c0 s0 pc' ls' st' h') : W p l e R s m args below meth c H locs cells slots Q (F0 m pc lsR (st.map (z_rv ra))) := by
  have hn : n = 3 := by simpa [z_len] using hn
  subst hn
  simp only [z_op] at hop
  split at hop
  · obtain ⟨t, ht, hop⟩ := Option.bind_eq_some_iff.mp hop
    have ht := z_tgt_spec ht
    refine lv_icmp_eq hx rfl hdg ht (fun q => ?_) (fun q => ?_)
    · rw [if_pos (by simpa [z_cmp] using q)] at hop
      simp only [z_go, Option.some.injEq, Sum.inl.injEq, Prod.mk.injEq] at hop
      obtain ⟨rfl, rfl, rfl, rfl⟩ := hop
      exact kk _ _ _ _ _ hr hl hS hc hs
    · rw [if_neg (by simpa [z_cmp] using q)] at hop
      simp only [z_go, Option.some.injEq, Sum.inl.injEq, Prod.mk.injEq] at hop
      obtain ⟨rfl, rfl, rfl, rfl⟩ := hop
      exact kk _ _ _ _ _ hr hl hS hc hs
  · cases hop
set_option maxHeartbeats 1000000 in
theorem z_S_if_ne {off : Int} (hx : p.tables.exec = Jvm.exec) (hdg : decode c.code pc = .ok (.ifCond .ne off, n)) (hn : z_len (.ifCond .ne off) = 0 ∨ n = z_len (.ifCond .ne off)) (hop : z_op g mi pc (.ifCond .ne off) ls st h = some (.inl (.inl (pc', ls', st', h'))))
    (hr : z_HR D cA HB h H) (hl : z_LR ra lsR ls) (hS : ∀ q ∈ locs, HB.size ≤ q.base) (hc : cells + c0 = h.2.2.1) (hs : slots + s0 = h.2.2.2)
    (kk : z_KK p l e R s m args below meth c Q D cA ra HB c0 s0 pc' ls' st' h') : W p l e R s m args below meth c H locs cells slots Q (F0 m pc lsR (st.map (z_rv ra))) := by
  have hn : n = 3 := by simpa [z_len] using hn
  subst hn
  simp only [z_op] at hop
  split at hop
  · obtain ⟨t, ht, hop⟩ := Option.bind_eq_some_iff.mp hop
    have ht := z_tgt_spec ht
    refine lv_if_ne hx rfl hdg ht (fun q => ?_) (fun q => ?_)
    · rw [if_pos (by simpa [z_cmp] using q)] at hop
      simp only [z_go, Option.some.injEq, Sum.inl.injEq, Prod.mk.injEq] at hop
      obtain ⟨rfl, rfl, rfl, rfl⟩ := hop
      exact kk _ _ _ _ _ hr hl hS hc hs
    · rw [if_neg (by simpa [z_cmp] using q)] at hop
      simp only [z_go, Option.some.injEq, Sum.inl.injEq, Prod.mk.injEq] at hop
      obtain ⟨rfl, rfl, rfl, rfl⟩ := hop
      exact kk _ _ _ _ _ hr hl hS hc hs
  · cases hop
set_option maxHeartbeats 1000000 in
theorem z_S_icmp_ne {off : Int} (hx : p.tables.exec = Jvm.exec) (hdg : decode c.code pc = .ok (.if_icmp .ne off, n)) (hn : z_len (.if_icmp .ne off) = 0 ∨ n = z_len (.if_icmp .ne off)) (hop : z_op g mi pc (.if_icmp .ne off) ls st h = some (.inl (.inl (pc', ls', st', h'))))
    (hr : z_HR D cA HB h H) (hl : z_LR ra lsR ls) (hS : ∀ q ∈ locs, HB.size ≤ q.base) (hc : cells + c0 = h.2.2.1) (hs : slots + s0 = h.2.2.2)
    (kk : z_KK p l e R s m args below meth c Q D cA ra HB c0 s0 pc' ls' st' h') : W p l e R s m args below meth c H locs cells slots Q (F0 m pc lsR (st.map (z_rv ra))) := by
  have hn : n = 3 := by simpa [z_len] using hn
  subst hn
  simp only [z_op] at hop
  split at hop
  · obtain ⟨t, ht, hop⟩ := Option.bind_eq_some_iff.mp hop
    have ht := z_tgt_spec ht
    refine lv_icmp_ne hx rfl hdg ht (fun q => ?_) (fun q => ?_)
    · rw [if_pos (by simpa [z_cmp] using q)] at hop
      simp only [z_go, Option.some.injEq, Sum.inl.injEq, Prod.mk.injEq] at hop
      obtain ⟨rfl, rfl, rfl, rfl⟩ := hop
      exact kk _ _ _ _ _ hr hl hS hc hs
    · rw [if_neg (by simpa [z_cmp] using q)] at hop
      simp only [z_go, Option.some.injEq, Sum.inl.injEq, Prod.mk.injEq] at hop
      obtain ⟨rfl, rfl, rfl, rfl⟩ := hop
      exact kk _ _ _ _ _ hr hl hS hc hs
  · cases hop
set_option maxHeartbeats 1000000 in
theorem z_S_if_lt {off : Int} (hx : p.tables.exec = Jvm.exec) (hdg : decode c.code pc = .ok (.ifCond .lt off, n)) (hn : z_len (.ifCond .lt off) = 0 ∨ n = z_len (.ifCond .lt off)) (hop : z_op g mi pc (.ifCond .lt off) ls st h = some (.inl (.inl (pc', ls', st', h'))))
    (hr : z_HR D cA HB h H) (hl : z_LR ra lsR ls) (hS : ∀ q ∈ locs, HB.size ≤ q.base) (hc : cells + c0 = h.2.2.1) (hs : slots + s0 = h.2.2.2)
    (kk : z_KK p l e R s m args below meth c Q D cA ra HB c0 s0 pc' ls' st' h') : W p l e R s m args below meth c H locs cells slots Q (F0 m pc lsR (st.map (z_rv ra))) := by
  have hn : n = 3 := by simpa [z_len] using hn
  subst hn
  simp only [z_op] at hop
  split at hop
  · obtain ⟨t, ht, hop⟩ := Option.bind_eq_some_iff.mp hop
    have ht := z_tgt_spec ht
    refine lv_if_lt hx rfl hdg ht (fun q => ?_) (fun q => ?_)
    · rw [if_pos (by simpa [z_cmp] using q)] at hop
      simp only [z_go, Option.some.injEq, Sum.inl.injEq, Prod.mk.injEq] at hop
      obtain ⟨rfl, rfl, rfl, rfl⟩ := hop
      exact kk _ _ _ _ _ hr hl hS hc hs
    · rw [if_neg (by simpa [z_cmp] using q)] at hop
      simp only [z_go, Option.some.injEq, Sum.inl.injEq, Prod.mk.injEq] at hop
      obtain ⟨rfl, rfl, rfl, rfl⟩ := hop
      exact kk _ _ _ _ _ hr hl hS hc hs
  · cases hop
set_option maxHeartbeats 1000000 in
theorem z_S_icmp_lt {off : Int} (hx : p.tables.exec = Jvm.exec) (hdg : decode c.code pc = .ok (.if_icmp .lt off, n)) (hn : z_len (.if_icmp .lt off) = 0 ∨ n = z_len (.if_icmp .lt off)) (hop : z_op g mi pc (.if_icmp .lt off) ls st h = some (.inl (.inl (pc', ls', st', h'))))
    (hr : z_HR D cA HB h H) (hl : z_LR ra lsR ls) (hS : ∀ q ∈ locs, HB.size ≤ q.base) (hc : cells + c0 = h.2.2.1) (hs : slots + s0 = h.2.2.2)
    (kk : z_KK p l e R s m args below meth c Q D cA ra HB c0 s0 pc' ls' st' h') : W p l e R s m args below meth c H locs cells slots Q (F0 m pc lsR (st.map (z_rv ra))) := by
  have hn : n = 3 := by simpa [z_len] using hn
  subst hn
  simp only [z_op] at hop
  split at hop
  · obtain ⟨t, ht, hop⟩ := Option.bind_eq_some_iff.mp hop
    have ht := z_tgt_spec ht
    refine lv_icmp_lt hx rfl hdg ht (fun q => ?_) (fun q => ?_)
    · rw [if_pos (by simpa [z_cmp] using q)] at hop
      simp only [z_go, Option.some.injEq, Sum.inl.injEq, Prod.mk.injEq] at hop
      obtain ⟨rfl, rfl, rfl, rfl⟩ := hop
      exact kk _ _ _ _ _ hr hl hS hc hs
    · rw [if_neg (by simpa [z_cmp] using q)] at hop
      simp only [z_go, Option.some.injEq, Sum.inl.injEq, Prod.mk.injEq] at hop
      obtain ⟨rfl, rfl, rfl, rfl⟩ := hop
      exact kk _ _ _ _ _ hr hl hS hc hs
  · cases hop
set_option maxHeartbeats 1000000 in
theorem z_S_if_ge {off : Int} (hx : p.tables.exec = Jvm.exec) (hdg : decode c.code pc = .ok (.ifCond .ge off, n)) (hn : z_len (.ifCond .ge off) = 0 ∨ n = z_len (.ifCond .ge off)) (hop : z_op g mi pc (.ifCond .ge off) ls st h = some (.inl (.inl (pc', ls', st', h'))))
    (hr : z_HR D cA HB h H) (hl : z_LR ra lsR ls) (hS : ∀ q ∈ locs, HB.size ≤ q.base) (hc : cells + c0 = h.2.2.1) (hs : slots + s0 = h.2.2.2)
    (kk : z_KK p l e R s m args below meth c Q D cA ra HB c0 s0 pc' ls' st' h') : W p l e R s m args below meth c H locs cells slots Q (F0 m pc lsR (st.map (z_rv ra))) := by
  have hn : n = 3 := by simpa [z_len] using hn
  subst hn
  simp only [z_op] at hop
  split at hop
  · obtain ⟨t, ht, hop⟩ := Option.bind_eq_some_iff.mp hop
    have ht := z_tgt_spec ht
    refine lv_if_ge hx rfl hdg ht (fun q => ?_) (fun q => ?_)
    · rw [if_pos (by simpa [z_cmp] using q)] at hop
      simp only [z_go, Option.some.injEq, Sum.inl.injEq, Prod.mk.injEq] at hop
      obtain ⟨rfl, rfl, rfl, rfl⟩ := hop
      exact kk _ _ _ _ _ hr hl hS hc hs
    · rw [if_neg (by simpa [z_cmp] using q)] at hop
      simp only [z_go, Option.some.injEq, Sum.inl.injEq, Prod.mk.injEq] at hop
      obtain ⟨rfl, rfl, rfl, rfl⟩ := hop
      exact kk _ _ _ _ _ hr hl hS hc hs
  · cases hop
set_option maxHeartbeats 1000000 in
theorem z_S_icmp_ge {off : Int} (hx : p.tables.exec = Jvm.exec) (hdg : decode c.code pc = .ok (.if_icmp .ge off, n)) (hn : z_len (.if_icmp .ge off) = 0 ∨ n = z_len (.if_icmp .ge off)) (hop : z_op g mi pc (.if_icmp .ge off) ls st h = some (.inl (.inl (pc', ls', st', h'))))
    (hr : z_HR D cA HB h H) (hl : z_LR ra lsR ls) (hS : ∀ q ∈ locs, HB.size ≤ q.base) (hc : cells + c0 = h.2.2.1) (hs : slots + s0 = h.2.2.2)
    (kk : z_KK p l e R s m args below meth c Q D cA ra HB c0 s0 pc' ls' st' h') : W p l e R s m args below meth c H locs cells slots Q (F0 m pc lsR (st.map (z_rv ra))) := by
  have hn : n = 3 := by simpa [z_len] using hn
  subst hn
  simp only [z_op] at hop
  split at hop
  · obtain ⟨t, ht, hop⟩ := Option.bind_eq_some_iff.mp hop
    have ht := z_tgt_spec ht
    refine lv_icmp_ge hx rfl hdg ht (fun q => ?_) (fun q => ?_)
    · rw [if_pos (by simpa [z_cmp] using q)] at hop
      simp only [z_go, Option.some.injEq, Sum.inl.injEq, Prod.mk.injEq] at hop
      obtain ⟨rfl, rfl, rfl, rfl⟩ := hop
      exact kk _ _ _ _ _ hr hl hS hc hs
    · rw [if_neg (by simpa [z_cmp] using q)] at hop
      simp only [z_go, Option.some.injEq, Sum.inl.injEq, Prod.mk.injEq] at hop
      obtain ⟨rfl, rfl, rfl, rfl⟩ := hop
      exact kk _ _ _ _ _ hr hl hS hc hs
  · cases hop
set_option maxHeartbeats 1000000 in
theorem z_S_if_gt {off : Int} (hx : p.tables.exec = Jvm.exec) (hdg : decode c.code pc = .ok (.ifCond .gt off, n)) (hn : z_len (.ifCond .gt off) = 0 ∨ n = z_len (.ifCond .gt off)) (hop : z_op g mi pc (.ifCond .gt off) ls st h = some (.inl (.inl (pc', ls', st', h'))))
    (hr : z_HR D cA HB h H) (hl : z_LR ra lsR ls) (hS : ∀ q ∈ locs, HB.size ≤ q.base) (hc : cells + c0 = h.2.2.1) (hs : slots + s0 = h.2.2.2)
    (kk : z_KK p l e R s m args below meth c Q D cA ra HB c0 s0 pc' ls' st' h') : W p l e R s m args below meth c H locs cells slots Q (F0 m pc lsR (st.map (z_rv ra))) := by
  have hn : n = 3 := by simpa [z_len] using hn
  subst hn
  simp only [z_op] at hop
  split at hop
  · obtain ⟨t, ht, hop⟩ := Option.bind_eq_some_iff.mp hop
    have ht := z_tgt_spec ht
    refine lv_if_gt hx rfl hdg ht (fun q => ?_) (fun q => ?_)
    · rw [if_pos (by simpa [z_cmp] using q)] at hop
      simp only [z_go, Option.some.injEq, Sum.inl.injEq, Prod.mk.injEq] at hop
      obtain ⟨rfl, rfl, rfl, rfl⟩ := hop
      exact kk _ _ _ _ _ hr hl hS hc hs
    · rw [if_neg (by simpa [z_cmp] using q)] at hop
      simp only [z_go, Option.some.injEq, Sum.inl.injEq, Prod.mk.injEq] at hop
      obtain ⟨rfl, rfl, rfl, rfl⟩ := hop
      exact kk _ _ _ _ _ hr hl hS hc hs
  · cases hop
set_option maxHeartbeats 1000000 in
theorem z_S_icmp_gt {off : Int} (hx : p.tables.exec = Jvm.exec) (hdg : decode c.code pc = .ok (.if_icmp .gt off, n)) (hn : z_len (.if_icmp .gt off) = 0 ∨ n = z_len (.if_icmp .gt off)) (hop : z_op g mi pc (.if_icmp .gt off) ls st h = some (.inl (.inl (pc', ls', st', h'))))
    (hr : z_HR D cA HB h H) (hl : z_LR ra lsR ls) (hS : ∀ q ∈ locs, HB.size ≤ q.base) (hc : cells + c0 = h.2.2.1) (hs : slots + s0 = h.2.2.2)
    (kk : z_KK p l e R s m args below meth c Q D cA ra HB c0 s0 pc' ls' st' h') : W p l e R s m args below meth c H locs cells slots Q (F0 m pc lsR (st.map (z_rv ra))) := by
  have hn : n = 3 := by simpa [z_len] using hn
  subst hn
  simp only [z_op] at hop
  split at hop
  · obtain ⟨t, ht, hop⟩ := Option.bind_eq_some_iff.mp hop
    have ht := z_tgt_spec ht
    refine lv_icmp_gt hx rfl hdg ht (fun q => ?_) (fun q => ?_)
    · rw [if_pos (by simpa [z_cmp] using q)] at hop
      simp only [z_go, Option.some.injEq, Sum.inl.injEq, Prod.mk.injEq] at hop
      obtain ⟨rfl, rfl, rfl, rfl⟩ := hop
      exact kk _ _ _ _ _ hr hl hS hc hs
    · rw [if_neg (by simpa [z_cmp] using q)] at hop
      simp only [z_go, Option.some.injEq, Sum.inl.injEq, Prod.mk.injEq] at hop
      obtain ⟨rfl, rfl, rfl, rfl⟩ := hop
      exact kk _ _ _ _ _ hr hl hS hc hs
  · cases hop
set_option maxHeartbeats 1000000 in
theorem z_S_if_le {off : Int} (hx : p.tables.exec = Jvm.exec) (hdg : decode c.code pc = .ok (.ifCond .le off, n)) (hn : z_len (.ifCond .le off) = 0 ∨ n = z_len (.ifCond .le off)) (hop : z_op g mi pc (.ifCond .le off) ls st h = some (.inl (.inl (pc', ls', st', h'))))
    (hr : z_HR D cA HB h H) (hl : z_LR ra lsR ls) (hS : ∀ q ∈ locs, HB.size ≤ q.base) (hc : cells + c0 = h.2.2.1) (hs : slots + s0 = h.2.2.2)
    (kk : z_KK p l e R s m args below meth c Q D cA ra HB c0 s0 pc' ls' st' h') : W p l e R s m args below meth c H locs cells slots Q (F0 m pc lsR (st.map (z_rv ra))) := by
  have hn : n = 3 := by simpa [z_len] using hn
  subst hn
  simp only [z_op] at hop
  split at hop
  · obtain ⟨t, ht, hop⟩ := Option.bind_eq_some_iff.mp hop
    have ht := z_tgt_spec ht
    refine lv_if_le hx rfl hdg ht (fun q => ?_) (fun q => ?_)
    · rw [if_pos (by simpa [z_cmp] using q)] at hop
      simp only [z_go, Option.some.injEq, Sum.inl.injEq, Prod.mk.injEq] at hop
      obtain ⟨rfl, rfl, rfl, rfl⟩ := hop
      exact kk _ _ _ _ _ hr hl hS hc hs
    · rw [if_neg (by simpa [z_cmp] using q)] at hop
      simp only [z_go, Option.some.injEq, Sum.inl.injEq, Prod.mk.injEq] at hop
      obtain ⟨rfl, rfl, rfl, rfl⟩ := hop
      exact kk _ _ _ _ _ hr hl hS hc hs
  · cases hop
set_option maxHeartbeats 1000000 in
theorem z_S_icmp_le {off : Int} (hx : p.tables.exec = Jvm.exec) (hdg : decode c.code pc = .ok (.if_icmp .le off, n)) (hn : z_len (.if_icmp .le off) = 0 ∨ n = z_len (.if_icmp .le off)) (hop : z_op g mi pc (.if_icmp .le off) ls st h = some (.inl (.inl (pc', ls', st', h'))))
    (hr : z_HR D cA HB h H) (hl : z_LR ra lsR ls) (hS : ∀ q ∈ locs, HB.size ≤ q.base) (hc : cells + c0 = h.2.2.1) (hs : slots + s0 = h.2.2.2)
    (kk : z_KK p l e R s m args below meth c Q D cA ra HB c0 s0 pc' ls' st' h') : W p l e R s m args below meth c H locs cells slots Q (F0 m pc lsR (st.map (z_rv ra))) := by
  have hn : n = 3 := by simpa [z_len] using hn
  subst hn
  simp only [z_op] at hop
  split at hop
  · obtain ⟨t, ht, hop⟩ := Option.bind_eq_some_iff.mp hop
    have ht := z_tgt_spec ht
    refine lv_icmp_le hx rfl hdg ht (fun q => ?_) (fun q => ?_)
    · rw [if_pos (by simpa [z_cmp] using q)] at hop
      simp only [z_go, Option.some.injEq, Sum.inl.injEq, Prod.mk.injEq] at hop
      obtain ⟨rfl, rfl, rfl, rfl⟩ := hop
      exact kk _ _ _ _ _ hr hl hS hc hs
    · rw [if_neg (by simpa [z_cmp] using q)] at hop
      simp only [z_go, Option.some.injEq, Sum.inl.injEq, Prod.mk.injEq] at hop
      obtain ⟨rfl, rfl, rfl, rfl⟩ := hop
      exact kk _ _ _ _ _ hr hl hS hc hs
  · cases hop
set_option maxHeartbeats 1000000 in
theorem z_S_goto {off : Int} (hx : p.tables.exec = Jvm.exec) (hdg : decode c.code pc = .ok (.goto off, n)) (hn : z_len (.goto off) = 0 ∨ n = z_len (.goto off)) (hop : z_op g mi pc (.goto off) ls st h = some (.inl (.inl (pc', ls', st', h'))))
    (hr : z_HR D cA HB h H) (hl : z_LR ra lsR ls) (hS : ∀ q ∈ locs, HB.size ≤ q.base) (hc : cells + c0 = h.2.2.1) (hs : slots + s0 = h.2.2.2)
    (kk : z_KK p l e R s m args below meth c Q D cA ra HB c0 s0 pc' ls' st' h') : W p l e R s m args below meth c H locs cells slots Q (F0 m pc lsR (st.map (z_rv ra))) := by
  have hn : n = 3 := by simpa [z_len] using hn
  subst hn
  simp only [z_op] at hop
  obtain ⟨t, ht, hop⟩ := Option.bind_eq_some_iff.mp hop
  simp only [z_go, Option.some.injEq, Sum.inl.injEq, Prod.mk.injEq] at hop
  obtain ⟨rfl, rfl, rfl, rfl⟩ := hop
  exact lv_goto hx rfl hdg (z_tgt_spec ht) (kk _ _ _ _ _ hr hl hS hc hs)
set_option maxHeartbeats 1000000 in
theorem z_S_tableswitch {d lo hi : Int} {offs : Array Int} (hx : p.tables.exec = Jvm.exec) (hdg : decode c.code pc = .ok (.tableswitch d lo hi offs, n)) (hn : z_len (.tableswitch d lo hi offs) = 0 ∨ n = z_len (.tableswitch d lo hi offs)) (hop : z_op g mi pc (.tableswitch d lo hi offs) ls st h = some (.inl (.inl (pc', ls', st', h'))))
    (hr : z_HR D cA HB h H) (hl : z_LR ra lsR ls) (hS : ∀ q ∈ locs, HB.size ≤ q.base) (hc : cells + c0 = h.2.2.1) (hs : slots + s0 = h.2.2.2)
    (kk : z_KK p l e R s m args below meth c Q D cA ra HB c0 s0 pc' ls' st' h') : W p l e R s m args below meth c H locs cells slots Q (F0 m pc lsR (st.map (z_rv ra))) := by
  clear hn
  simp only [z_op] at hop
  split at hop
  · split at hop
    · rename_i q
      obtain ⟨t, ht, hop⟩ := Option.bind_eq_some_iff.mp hop
      simp only [z_go, Option.some.injEq, Sum.inl.injEq, Prod.mk.injEq] at hop
      obtain ⟨rfl, rfl, rfl, rfl⟩ := hop
      exact lv_tableOut hx rfl hdg q (z_tgt_spec ht) (kk _ _ _ _ _ hr hl hS hc hs)
    · rename_i q
      obtain ⟨o, ho, hop⟩ := Option.bind_eq_some_iff.mp hop
      obtain ⟨t, ht, hop⟩ := Option.bind_eq_some_iff.mp hop
      simp only [z_go, Option.some.injEq, Sum.inl.injEq, Prod.mk.injEq] at hop
      obtain ⟨rfl, rfl, rfl, rfl⟩ := hop
      exact lv_tableIn hx rfl hdg (fun z => q (Or.inl z)) (fun z => q (Or.inr z)) ho (z_tgt_spec ht) (kk _ _ _ _ _ hr hl hS hc hs)
  · cases hop
set_option maxHeartbeats 1000000 in
theorem z_S_aconst_null (hx : p.tables.exec = Jvm.exec) (hdg : decode c.code pc = .ok (.aconst_null, n)) (hn : z_len (.aconst_null) = 0 ∨ n = z_len (.aconst_null)) (hop : z_op g mi pc (.aconst_null) ls st h = some (.inl (.inl (pc', ls', st', h'))))
    (hr : z_HR D cA HB h H) (hl : z_LR ra lsR ls) (hS : ∀ q ∈ locs, HB.size ≤ q.base) (hc : cells + c0 = h.2.2.1) (hs : slots + s0 = h.2.2.2)
    (kk : z_KK p l e R s m args below meth c Q D cA ra HB c0 s0 pc' ls' st' h') : W p l e R s m args below meth c H locs cells slots Q (F0 m pc lsR (st.map (z_rv ra))) := by
  have hn : n = 1 := by simpa [z_len] using hn
  subst hn
  simp only [z_op] at hop
  simp only [z_go, Option.some.injEq, Sum.inl.injEq, Prod.mk.injEq] at hop
  obtain ⟨rfl, rfl, rfl, rfl⟩ := hop
  exact lv_null hx rfl hdg (kk _ _ _ _ _ hr hl hS hc hs)
set_option maxHeartbeats 1000000 in
theorem z_S_ineg (hx : p.tables.exec = Jvm.exec) (hdg : decode c.code pc = .ok (.ineg, n)) (hn : z_len (.ineg) = 0 ∨ n = z_len (.ineg)) (hop : z_op g mi pc (.ineg) ls st h = some (.inl (.inl (pc', ls', st', h'))))
    (hr : z_HR D cA HB h H) (hl : z_LR ra lsR ls) (hS : ∀ q ∈ locs, HB.size ≤ q.base) (hc : cells + c0 = h.2.2.1) (hs : slots + s0 = h.2.2.2)
    (kk : z_KK p l e R s m args below meth c Q D cA ra HB c0 s0 pc' ls' st' h') : W p l e R s m args below meth c H locs cells slots Q (F0 m pc lsR (st.map (z_rv ra))) := by
  have hn : n = 1 := by simpa [z_len] using hn
  subst hn
  simp only [z_op] at hop
  split at hop
  · simp only [z_go, Option.some.injEq, Sum.inl.injEq, Prod.mk.injEq] at hop
    obtain ⟨rfl, rfl, rfl, rfl⟩ := hop
    exact lv_ineg hx rfl hdg (kk _ _ _ _ _ hr hl hS hc hs)
  · cases hop
set_option maxHeartbeats 1000000 in
theorem z_S_i2c (hx : p.tables.exec = Jvm.exec) (hdg : decode c.code pc = .ok (.i2c, n)) (hn : z_len (.i2c) = 0 ∨ n = z_len (.i2c)) (hop : z_op g mi pc (.i2c) ls st h = some (.inl (.inl (pc', ls', st', h'))))
    (hr : z_HR D cA HB h H) (hl : z_LR ra lsR ls) (hS : ∀ q ∈ locs, HB.size ≤ q.base) (hc : cells + c0 = h.2.2.1) (hs : slots + s0 = h.2.2.2)
    (kk : z_KK p l e R s m args below meth c Q D cA ra HB c0 s0 pc' ls' st' h') : W p l e R s m args below meth c H locs cells slots Q (F0 m pc lsR (st.map (z_rv ra))) := by
  have hn : n = 1 := by simpa [z_len] using hn
  subst hn
  simp only [z_op] at hop
  split at hop
  · simp only [z_go, Option.some.injEq, Sum.inl.injEq, Prod.mk.injEq] at hop
    obtain ⟨rfl, rfl, rfl, rfl⟩ := hop
    exact lv_i2c hx rfl hdg rfl (kk _ _ _ _ _ hr hl hS hc hs)
  · cases hop
set_option maxHeartbeats 1000000 in
theorem z_S_dup_x1 (hx : p.tables.exec = Jvm.exec) (hdg : decode c.code pc = .ok (.dup_x1, n)) (hn : z_len (.dup_x1) = 0 ∨ n = z_len (.dup_x1)) (hop : z_op g mi pc (.dup_x1) ls st h = some (.inl (.inl (pc', ls', st', h'))))
    (hr : z_HR D cA HB h H) (hl : z_LR ra lsR ls) (hS : ∀ q ∈ locs, HB.size ≤ q.base) (hc : cells + c0 = h.2.2.1) (hs : slots + s0 = h.2.2.2)
    (kk : z_KK p l e R s m args below meth c Q D cA ra HB c0 s0 pc' ls' st' h') : W p l e R s m args below meth c H locs cells slots Q (F0 m pc lsR (st.map (z_rv ra))) := by
  have hn : n = 1 := by simpa [z_len] using hn
  subst hn
  simp only [z_op] at hop
  split at hop
  · split at hop
    · rename_i hv
      simp only [z_go, Option.some.injEq, Sum.inl.injEq, Prod.mk.injEq] at hop
      obtain ⟨rfl, rfl, rfl, rfl⟩ := hop
      exact lv_dup_x1 hx rfl hdg ((z_rv_cat ra _).trans hv.1) ((z_rv_cat ra _).trans hv.2) (kk _ _ _ _ _ hr hl hS hc hs)
    · cases hop
  · cases hop
set_option maxHeartbeats 1000000 in
theorem z_S_ifnull {off : Int} (hx : p.tables.exec = Jvm.exec) (hdg : decode c.code pc = .ok (.ifnull off, n)) (hn : z_len (.ifnull off) = 0 ∨ n = z_len (.ifnull off)) (hop : z_op g mi pc (.ifnull off) ls st h = some (.inl (.inl (pc', ls', st', h'))))
    (hr : z_HR D cA HB h H) (hl : z_LR ra lsR ls) (hS : ∀ q ∈ locs, HB.size ≤ q.base) (hc : cells + c0 = h.2.2.1) (hs : slots + s0 = h.2.2.2)
    (kk : z_KK p l e R s m args below meth c Q D cA ra HB c0 s0 pc' ls' st' h') : W p l e R s m args below meth c H locs cells slots Q (F0 m pc lsR (st.map (z_rv ra))) := by
  have hn : n = 3 := by simpa [z_len] using hn
  subst hn
  simp only [z_op] at hop
  split at hop
  · obtain ⟨t, ht, hop⟩ := Option.bind_eq_some_iff.mp hop
    simp only [z_go, Option.some.injEq, Sum.inl.injEq, Prod.mk.injEq] at hop
    obtain ⟨rfl, rfl, rfl, rfl⟩ := hop
    exact lv_ifnullN hx rfl hdg (z_tgt_spec ht) (kk _ _ _ _ _ hr hl hS hc hs)
  · simp only [z_go, Option.some.injEq, Sum.inl.injEq, Prod.mk.injEq] at hop
    obtain ⟨rfl, rfl, rfl, rfl⟩ := hop
    exact lv_ifnull hx rfl hdg (kk _ _ _ _ _ hr hl hS hc hs)
  · simp only [z_go, Option.some.injEq, Sum.inl.injEq, Prod.mk.injEq] at hop
    obtain ⟨rfl, rfl, rfl, rfl⟩ := hop
    exact lv_ifnull hx rfl hdg (kk _ _ _ _ _ hr hl hS hc hs)
  · cases hop
set_option maxHeartbeats 1000000 in
theorem z_S_ifnonnull {off : Int} (hx : p.tables.exec = Jvm.exec) (hdg : decode c.code pc = .ok (.ifnonnull off, n)) (hn : z_len (.ifnonnull off) = 0 ∨ n = z_len (.ifnonnull off)) (hop : z_op g mi pc (.ifnonnull off) ls st h = some (.inl (.inl (pc', ls', st', h'))))
    (hr : z_HR D cA HB h H) (hl : z_LR ra lsR ls) (hS : ∀ q ∈ locs, HB.size ≤ q.base) (hc : cells + c0 = h.2.2.1) (hs : slots + s0 = h.2.2.2)
    (kk : z_KK p l e R s m args below meth c Q D cA ra HB c0 s0 pc' ls' st' h') : W p l e R s m args below meth c H locs cells slots Q (F0 m pc lsR (st.map (z_rv ra))) := by
  have hn : n = 3 := by simpa [z_len] using hn
  subst hn
  simp only [z_op] at hop
  split at hop
  · simp only [z_go, Option.some.injEq, Sum.inl.injEq, Prod.mk.injEq] at hop
    obtain ⟨rfl, rfl, rfl, rfl⟩ := hop
    exact lv_ifnonnullN hx rfl hdg (kk _ _ _ _ _ hr hl hS hc hs)
  · obtain ⟨t, ht, hop⟩ := Option.bind_eq_some_iff.mp hop
    simp only [z_go, Option.some.injEq, Sum.inl.injEq, Prod.mk.injEq] at hop
    obtain ⟨rfl, rfl, rfl, rfl⟩ := hop
    exact lv_ifnonnull hx rfl hdg (z_tgt_spec ht) (kk _ _ _ _ _ hr hl hS hc hs)
  · obtain ⟨t, ht, hop⟩ := Option.bind_eq_some_iff.mp hop
    simp only [z_go, Option.some.injEq, Sum.inl.injEq, Prod.mk.injEq] at hop
    obtain ⟨rfl, rfl, rfl, rfl⟩ := hop
    exact lv_ifnonnull hx rfl hdg (z_tgt_spec ht) (kk _ _ _ _ _ hr hl hS hc hs)
  · cases hop
end ZOP
