/-! what the machine's heap, locals and stack are over the abstract ones -/
def z_rv (ra : Nat → Nat) (v : Value) : Value := match v with
  | .retAddr k => .ref (ra k)
  | v => v
def z_tyl : List FieldType := [.int, .boolean, .byte, .array .int, .array .boolean, .array (.array .boolean)]
def z_A (HB : Heap) : Nat → Prop := fun q => HB.size ≤ q
def z_cv (cA : FieldType → ClassId) (c : z_C) : va_E := match c with
  | .inl (ty, a) => .inl (cA ty, a)
  | .inr o => .inr o
def z_isV (w : Cond) : Bool := match w with
  | .castable _ _ => true
  | .declares _ => true
  | .methodLinkNest _ _ _ _ => true
  | .fieldLinkNest _ _ _ _ _ _ => true
  | _ => false
def z_vw : List Cond := lw_tbl.filter z_isV
/-- the heap: what lies at the base and above it is told by h; below it nothing changes -/
def z_HR (D : va_G) (cA : FieldType → ClassId) (HB : Heap) (h : z_H) (H : Heap) : Prop :=
  (∀ (a : Nat) (c : z_C), h.1 a = some c → HB.size ≤ a ∧ va_at D vwCl (a, z_cv cA c) H) ∧ (∀ q : Nat, h.2.1 = some q → H.size = q) ∧ HB.size ≤ H.size ∧ ∀ q : Nat, q < HB.size → H[q]? = HB[q]?
/-- what is known at a method's start, beside the heap -/
def z_EV (D : va_G) (cA : FieldType → ClassId) (ra adV : Nat → Nat) (HB : Heap) (g : z_G) (U : State) : Prop :=
  va_K D vwCl (z_tyl.map fun t => (cA t, t)) U ∧ vx_Zq Bundle.tN "UNASSIGNED_STACK" Bundle.steD (z_A HB) U HB ∧ vx_Zq Bundle.tN "SUPPRESSED_SENTINEL" Bundle.listD (z_A HB) U HB ∧
  (∀ q ∈ z_sxs, ∃ a : Nat, vk_R q.1.1 q.1.2 q.2 a U) ∧ (∀ q ∈ z_srs, ∃ tx : String, vk_R q.1.1 q.1.2 tx (ra q.2) U) ∧ (∀ w ∈ z_vw, va_Nw w U) ∧ (∀ E ∈ z_exn, ∀ T ∈ z_exc, E ≠ T → va_Nc E T U) ∧
  (va_AOA .int U ∧ va_AOA .boolean U ∧ va_AOA (.array .boolean) U) ∧ (va_Z "java/lang/Integer" "DigitOnes" "[B" (.ref (ra 97)) (z_A HB) U HB ∧ va_T .byte (ra 97) 100 (fun j => .int (nI (48 + j % 10))) (z_A HB) U HB) ∧ va_X (ra 99) g.1 g.2 U HB ∧ vk_S 6 [9, 3, 5, 10, 6, 4] [z_lit 0, z_lit 1, z_lit 2, z_lit 3, z_lit 4, z_lit 5] ra adV (z_A HB) U HB ∧
  va_Z "java/lang/String" "COMPACT_STRINGS" "Z" (.int 1) (z_A HB) U HB ∧ vx_Zq "jdk/internal/util/Preconditions" "SIOOBE_FORMATTER" "Ljava/util/function/BiFunction;" (z_A HB) U HB ∧ ∀ k : Nat, k < 6 → ra (50 + k) = adV k
theorem z_vw_moved {s U : State} (hW : s.WarmedH U.vm) (h : ∀ w ∈ z_vw, va_Nw w s) : ∀ w ∈ z_vw, va_Nw w U := by
  intro w hw
  have h1 := h w hw
  have h2 := (List.mem_filter.mp hw).2
  cases w <;> first | exact va_Nw.warmC hW h1 | exact va_Nw.warmD hW h1 | exact va_Nw.warmM hW h1 | exact va_Nw.warmF hW h1 | (simp [z_isV] at h2; done)
theorem va_AOA.warm {ty : FieldType} {s U : State} (hW : s.WarmedH U.vm) (h : va_AOA ty s) : va_AOA ty U := by
  have h1 : (Cond.arrayOver (.array ty)).before #[] (s.setVm U.vm) = true := (Cond.arrayOver_setVmC (args := #[]) (s := s) hW.alike (.array ty)).trans h
  exact h1
theorem z_EV.moved {D : va_G} {cA : FieldType → ClassId} {ra adV : Nat → Nat} {HB : Heap} {g : z_G} {s U : State} (hW : s.WarmedH U.vm) (h : z_EV D cA ra adV HB g s) : z_EV D cA ra adV HB g U := by
  obtain ⟨h1, h2, h3, h4, h5, h6, h7, ⟨h8, h8b, h8c⟩, ⟨h9, h10⟩, h11, h12, h13, h14, h15⟩ := h
  have hal : s.vm.Alike U.vm := hW.alike
  refine ⟨h1.moved hal, h2.moved hal, h3.moved hal, fun q hq => ?_, fun q hq => ?_, z_vw_moved hW h6, fun E hE T hT ne => (h7 E hE T hT ne).moved hal, ⟨h8.warm hW, h8b.warm hW, h8c.warm hW⟩, ⟨h9.moved hal, h10.moved hal⟩, h11.moved hal, h12.moved hal, h13.moved hal, h14.moved hal, h15⟩
  · obtain ⟨a, ha⟩ := h4 q hq
    exact ⟨a, ha.warm hW⟩
  · obtain ⟨tx, ha⟩ := h5 q hq
    exact ⟨tx, ha.warm hW⟩
def z_kn (ra : Nat → Nat) (ls : List Value) : List (Nat × Value) := ls.zipIdx.filterMap fun q => if q.1 = z_un then none else some (q.2, z_rv ra q.1)
theorem z_kn_mem {ra : Nat → Nat} {ls : List Value} {k : Nat} {v : Value} (h : ls[k]? = some v) (hv : v ≠ z_un) : (k, z_rv ra v) ∈ z_kn ra ls :=
  List.mem_filterMap.mpr ⟨(v, k), List.mem_zipIdx_iff_getElem?.mpr h, by simp [hv]⟩
theorem z_kn_of {ra : Nat → Nat} {ls : List Value} {q : Nat × Value} (h : q ∈ z_kn ra ls) : ∃ v, ls[q.1]? = some v ∧ v ≠ z_un ∧ q.2 = z_rv ra v := by
  obtain ⟨⟨v, k⟩, h1, h2⟩ := List.mem_filterMap.mp h
  have h3 := List.mem_zipIdx_iff_getElem?.mp h1
  by_cases hv : v = z_un
  · simp [hv] at h2
  · simp only [hv, if_false] at h2
    cases h2
    exact ⟨v, h3, hv, rfl⟩
def z_LR (ra : Nat → Nat) (lsR : Array Slot) (ls : List Value) : Prop := lv_has lsR ls.length (z_kn ra ls) ∧ ∀ v ∈ ls, v.category = 1
theorem z_LR.get {ra : Nat → Nat} {lsR : Array Slot} {ls : List Value} (h : z_LR ra lsR ls) {k : Nat} {v : Value} (hk : ls[k]? = some v) (hv : v ≠ z_un) : lsR[k]? = some (.val (z_rv ra v)) := h.1.2.2 _ (z_kn_mem hk hv)
theorem z_rv_cat (ra : Nat → Nat) (v : Value) : (z_rv ra v).category = v.category := by cases v <;> rfl
theorem z_LR.set {ra : Nat → Nat} {ls' : Array Slot} {lsR : Array Slot} {ls : List Value} (h : z_LR ra lsR ls) {k : Nat} {v w : Value} (hk : k < ls.length) (hc : v.category = 1) (hw : v ≠ z_un → w = z_rv ra v)
    (h' : lv_has ls' ls.length ((k, w) :: (z_kn ra ls).filter (fun q => !(q.1 == k) && !(q.1 + 1 == k && q.2.category == 2)))) : z_LR ra ls' (ls.set k v) := by
  refine ⟨⟨by rw [List.length_set]; exact h'.1, h'.2.1, fun q hq => ?_⟩, fun x hx => ?_⟩
  · obtain ⟨x, h1, h2, h3⟩ := z_kn_of hq
    obtain ⟨q1, q2⟩ := q
    dsimp only at h1 h3
    by_cases e : q1 = k
    · subst e
      rw [List.getElem?_set_self hk] at h1
      cases h1
      have h4 := h'.2.2 _ List.mem_cons_self
      rw [h3, ← hw h2]
      exact h4
    · rw [List.getElem?_set_ne (Ne.symm e)] at h1
      refine h'.2.2 _ (List.mem_cons_of_mem _ (List.mem_filter.mpr ⟨by rw [h3]; exact z_kn_mem h1 h2, ?_⟩))
      have h5 : x.category = 1 := h.2 x (List.mem_of_getElem? h1)
      simp [e, h3, z_rv_cat, h5]
  · rcases List.mem_or_eq_of_mem_set hx with h1 | h1
    · exact h.2 x h1
    · rw [h1]; exact hc
/-- the frame's own facts -/
def z_FR (mi : Nat) (p : Program) (l : Launch) (s : State) (m : MethodId) (args : Array Value) (meth : Method) (c : Code) : Prop :=
  p.tables.exec = Jvm.exec ∧ (∃ q, z_me mi = some q ∧ c.code = q.2.1 ∧ c.maxLocals = q.2.2.1 ∧ s.vm.findClass q.1.cls = some m.cls ∧ (q.1.name = "<init>" → meth.name = "<init>") ∧ c.exceptionTable.toList = tableOf q.2.2.2.2 ∧ meth.sig.returnType = q.2.2.2.1) ∧ (∀ w ∈ z_tbl, w.before args s = true) ∧ l.stackTraces = false ∧ meth.locks = false
theorem z_HR.up {D : va_G} {cA : FieldType → ClassId} {HB : Heap} {h : z_H} {H H' : Heap} {a : Nat} {c0 c : z_C} (hr : z_HR D cA HB h H) (ha : h.1 a = some c0) (hz : H'.size = H.size) (oq : ∀ q : Nat, q ≠ a → H'[q]? = H[q]?) (he : va_at D vwCl (a, z_cv cA c) H') : z_HR D cA HB (z_up h.1 a c, h.2) H' := by
  obtain ⟨h1, h2, h3, h4⟩ := hr
  obtain ⟨ha1, -⟩ := h1 a c0 ha
  refine ⟨fun x cx hx => ?_, fun q hq => by rw [hz]; exact h2 q hq, by rw [hz]; exact h3, fun q hq => ?_⟩
  · by_cases e : x = a
    · subst e
      simp [z_up] at hx
      subst hx
      exact ⟨ha1, he⟩
    · simp [z_up, e] at hx
      obtain ⟨g1, g2⟩ := h1 x cx hx
      exact ⟨g1, g2.kept (oq x e)⟩
  · rw [oq q (by omega)]
    exact h4 q hq
theorem z_HR.one {D : va_G} {cA : FieldType → ClassId} {HB : Heap} {h : z_H} {H : Heap} {a : Nat} {c : z_C} (hr : z_HR D cA HB h H) (ha : h.1 a = some c) : va_P D vwCl [(a, z_cv cA c)] H := by
  intro k q hk
  have hz : k < 1 := (List.getElem?_eq_some_iff.mp hk).1
  have hk0 : k = 0 := by omega
  subst hk0
  cases hk
  exact (hr.1 a c ha).2
