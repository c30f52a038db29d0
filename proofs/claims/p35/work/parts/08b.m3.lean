/-! new T[n][k][l]: the array, then row by row its arrays with theirs -/
def m3_o (c : ClassId) (N h0 w : Nat) : Nat → Cell
  | 0 => { cls := c, slots := Array.replicate N .null, vm := .none }
  | i + 1 => (m3_o c N h0 w i).setSlot i (.ref (h0 + 1 + i * w))
def m3_f (s : State) (c c1 c2 : ClassId) (n k l : Nat) (dv : Value) : Nat → State
  | 0 => s.pushCell (m3_o c n s.heap.size (1 + k) 0)
  | i + 1 => (Jvm.Free.Multi.fill (m3_f s c c1 c2 n k l dv i) c1 c2 k l dv k).setCell s.heap.size (m3_o c n s.heap.size (1 + k) (i + 1))
theorem m3_oF (c : ClassId) (N h0 w : Nat) : ∀ i, (m3_o c N h0 w i).cls = c ∧ (m3_o c N h0 w i).vm = .none ∧ (m3_o c N h0 w i).slots.size = N
  | 0 => ⟨rfl, rfl, by simp [m3_o]⟩
  | i + 1 => by
    obtain ⟨a, b, d⟩ := m3_oF c N h0 w i
    exact ⟨by simp [m3_o, Cell.setSlot, a], by simp [m3_o, Cell.setSlot, b], by simp [m3_o, Cell.setSlot, d]⟩
theorem m3_fF (s : State) (c c1 c2 : ClassId) (n k l : Nat) (dv : Value) : ∀ i, (m3_f s c c1 c2 n k l dv i).heap.size = s.heap.size + 1 + i * (1 + k) ∧ (m3_f s c c1 c2 n k l dv i).heap[s.heap.size]? = some (m3_o c n s.heap.size (1 + k) i) ∧
    (m3_f s c c1 c2 n k l dv i).vm = s.vm ∧ (m3_f s c c1 c2 n k l dv i).slotsUsed = s.slotsUsed + n + i * (k + k * l)
  | 0 => ⟨by simp [m3_f], by simp [m3_f], rfl, by simp [m3_f, m3_o]⟩
  | i + 1 => by
    obtain ⟨a, b, d, u⟩ := m3_fF s c c1 c2 n k l dv i
    obtain ⟨f1, f2, f3, f4⟩ := Jvm.Free.Multi.fill_facts (m3_f s c c1 c2 n k l dv i) c1 c2 k l dv k
    have hlt : s.heap.size < (m3_f s c c1 c2 n k l dv i).heap.size := by omega
    have hb' : (Jvm.Free.Multi.fill (m3_f s c c1 c2 n k l dv i) c1 c2 k l dv k).heap[s.heap.size]? = some (m3_o c n s.heap.size (1 + k) i) := by rw [Jvm.Free.Multi.fill_old (ha := hlt)]; exact b
    refine ⟨?_, State.heap_setCell_self hb', ?_, ?_⟩
    · show ((Jvm.Free.Multi.fill (m3_f s c c1 c2 n k l dv i) c1 c2 k l dv k).setCell _ _).heap.size = _
      rw [size_setCell, f1, a, Nat.succ_mul]
      omega
    · show ((Jvm.Free.Multi.fill (m3_f s c c1 c2 n k l dv i) c1 c2 k l dv k).setCell _ _).vm = _
      rw [← d, ← f3]
      rfl
    · show ((Jvm.Free.Multi.fill (m3_f s c c1 c2 n k l dv i) c1 c2 k l dv k).setCell _ _).slotsUsed = _
      rw [Nat.succ_mul]
      have e : ((Jvm.Free.Multi.fill (m3_f s c c1 c2 n k l dv i) c1 c2 k l dv k).setCell s.heap.size (m3_o c n s.heap.size (1 + k) (i + 1))).slotsUsed = (Jvm.Free.Multi.fill (m3_f s c c1 c2 n k l dv i) c1 c2 k l dv k).slotsUsed := rfl
      rw [e, f4, u]
      omega
theorem m3_fT (s : State) (f : JFrame) (c c1 c2 : ClassId) (n k l : Nat) (dv : Value) : ∀ i, m3_f (s.setTop f) c c1 c2 n k l dv i = (m3_f s c c1 c2 n k l dv i).setTop f
  | 0 => rfl
  | i + 1 => by simp only [m3_f, m3_fT s f c c1 c2 n k l dv i, Jvm.Free.Multi.fill_setTop, State.heap_setTop, State.setCell_setTop]
theorem m3_old (s : State) (c c1 c2 : ClassId) (n k l : Nat) (dv : Value) {a : Addr} (ha : a < s.heap.size) : ∀ i, (m3_f s c c1 c2 n k l dv i).heap[a]? = s.heap[a]?
  | 0 => State.heap_pushCell_of_lt _ _ ha
  | i + 1 => by
    have f1 := (m3_fF s c c1 c2 n k l dv i).1
    have hlt : a < (m3_f s c c1 c2 n k l dv i).heap.size := Nat.lt_of_lt_of_le ha (by rw [f1]; omega)
    show ((Jvm.Free.Multi.fill (m3_f s c c1 c2 n k l dv i) c1 c2 k l dv k).setCell s.heap.size _).heap[a]? = _
    rw [State.heap_setCell_other (Nat.ne_of_gt ha), Jvm.Free.Multi.fill_old (ha := hlt)]
    exact m3_old s c c1 c2 n k l dv ha i
theorem m3_in (s : State) (c c1 c2 : ClassId) (n k l : Nat) (dv : Value) : ∀ i j, j < i → (m3_f s c c1 c2 n k l dv i).heap[s.heap.size + 1 + j * (1 + k)]? = some (Jvm.Free.Multi.outerC c1 k (s.heap.size + 1 + j * (1 + k)) k) ∧
    ∀ t, t < k → (m3_f s c c1 c2 n k l dv i).heap[s.heap.size + 1 + j * (1 + k) + 1 + t]? = some (Jvm.Free.Multi.innerC c2 l dv)
  | 0, _, h => absurd h (Nat.not_lt_zero _)
  | i + 1, j, h => by
    have f1 := (m3_fF s c c1 c2 n k l dv i).1
    obtain ⟨g1, g2, -, -⟩ := Jvm.Free.Multi.fill_facts (m3_f s c c1 c2 n k l dv i) c1 c2 k l dv k
    have g3 := Jvm.Free.Multi.fill_inner (m3_f s c c1 c2 n k l dv i) c1 c2 k l dv k
    have key : ∀ x : Nat, x ≠ s.heap.size → (m3_f s c c1 c2 n k l dv (i + 1)).heap[x]? = (Jvm.Free.Multi.fill (m3_f s c c1 c2 n k l dv i) c1 c2 k l dv k).heap[x]? := fun x hx => by
      show ((Jvm.Free.Multi.fill (m3_f s c c1 c2 n k l dv i) c1 c2 k l dv k).setCell s.heap.size _).heap[x]? = _
      rw [State.heap_setCell_other (Ne.symm hx)]
    rcases Nat.lt_or_ge j i with hj | hj
    · have hm : j * (1 + k) + (1 + k) ≤ i * (1 + k) := by
        have := Nat.mul_le_mul_right (1 + k) (show j + 1 ≤ i from hj)
        rw [Nat.succ_mul] at this
        exact this
      obtain ⟨i1, i2⟩ := m3_in s c c1 c2 n k l dv i j hj
      refine ⟨?_, fun t ht => ?_⟩
      · have hA : s.heap.size + 1 + j * (1 + k) < (m3_f s c c1 c2 n k l dv i).heap.size := by rw [f1]; omega
        rw [key _ (by omega), Jvm.Free.Multi.fill_old (ha := hA)]
        exact i1
      · have hA : s.heap.size + 1 + j * (1 + k) + 1 + t < (m3_f s c c1 c2 n k l dv i).heap.size := by rw [f1]; omega
        rw [key _ (by omega), Jvm.Free.Multi.fill_old (ha := hA)]
        exact i2 t ht
    · have e : j = i := by omega
      subst e
      rw [f1] at g2 g3
      refine ⟨?_, fun t ht => ?_⟩
      · rw [key _ (by omega)]
        exact g2
      · rw [key _ (by omega)]
        exact g3 t ht
section
variable {E : CtlPost} {e : Env} {d : Bool} {acts : List Action} {s : State}
theorem m3_wp {c c1 c2 cc : ClassId} {k k1 k2 : Class} {t0 t1 type : FieldType} {n m l : Int32} (hk : s.vm.classes[c]? = some k) (hkind : k.kind = .array c1 t0) (href : t0.isReference = true)
    (hk1 : s.vm.classes[c1]? = some k1) (hkind1 : k1.kind = .array c2 t1) (href1 : t1.isReference = true) (hk2 : s.vm.classes[c2]? = some k2) (hkind2 : k2.kind = .array cc type) (hn : ¬ n < 0) (hm : ¬ m < 0) (hl : ¬ l < 0)
    (hl1 : ¬ n.toNatClampNeg > e.platform.arrayLengthLimit) (hh1 : ¬ n.toNatClampNeg * componentBytes t0 > e.platform.maxHeapBytes)
    (hl2 : ¬ m.toNatClampNeg > e.platform.arrayLengthLimit) (hh2 : ¬ m.toNatClampNeg * componentBytes t1 > e.platform.maxHeapBytes)
    (hl3 : ¬ l.toNatClampNeg > e.platform.arrayLengthLimit) (hh3 : ¬ l.toNatClampNeg * componentBytes type > e.platform.maxHeapBytes)
    (hdf : fits type (defaultValue type) = true) (hdd : (defaultValue type).isDefault = true)
    (hc : s.heap.size + 1 + n.toNatClampNeg * (1 + m.toNatClampNeg) ≤ e.platform.maxCells) (hs : s.slotsUsed + n.toNatClampNeg + n.toNatClampNeg * (m.toNatClampNeg + m.toNatClampNeg * l.toNatClampNeg) ≤ e.platform.maxSlots)
    {Q : Addr → Pre} (hq : ∀ d' acts', Q s.heap.size d' acts' (m3_f s c c1 c2 n.toNatClampNeg m.toNatClampNeg l.toNatClampNeg (defaultValue type) n.toNatClampNeg)) :
    wp (multianewarray.make c [n, m, l]) Q E e d acts s := by
  have hfind : ([m, l].find? (· < 0)) = none := by simp [hm, hl]
  rw [multianewarray.make]
  simp only [wp_bind', Jvm.W.ite, hn, if_false, wp_pure', Jvm.W.theClass, hk, hkind, Option.some.injEq, exists_eq_left']
  have hmul0 := Nat.zero_le (n.toNatClampNeg * (m.toNatClampNeg + m.toNatClampNeg * l.toNatClampNeg))
  refine Jvm.Free.Multi.wp_newArray hk hkind hl1 hh1 (Jvm.Free.Multi.refFits href _ (Or.inl rfl)) rfl (by omega) (by omega) ?_
  simp only [hfind]
  rw [ite_self, wp_bind', Std.Legacy.Range.forIn_eq_forIn_range']
  have hsz : ([:n.toNatClampNeg] : Std.Legacy.Range).size = n.toNatClampNeg := by simp [Std.Legacy.Range.size]
  rw [hsz]
  show wp (forIn (List.range' 0 n.toNatClampNeg 1) PUnit.unit _) _ E e d acts _
  refine wp_forIn_inv (fun rest s' => ∃ i, i ≤ n.toNatClampNeg ∧ rest = List.range' i (n.toNatClampNeg - i) ∧ s' = m3_f s c c1 c2 n.toNatClampNeg m.toNatClampNeg l.toNatClampNeg (defaultValue type) i) _ _ ⟨0, Nat.zero_le _, rfl, rfl⟩ ?_ ?_
  · rintro x rest s' d' acts' Q' ⟨i, hi, hl9, rfl⟩ hnext
    have hlt : i < n.toNatClampNeg := by
      rcases Nat.lt_or_ge i n.toNatClampNeg with h | h
      · exact h
      · rw [show n.toNatClampNeg - i = 0 from by omega] at hl9; simp at hl9
    obtain ⟨rfl, hrest⟩ : x = i ∧ rest = List.range' (i + 1) (n.toNatClampNeg - (i + 1)) := by
      rw [show n.toNatClampNeg - i = (n.toNatClampNeg - (i + 1)) + 1 from by omega, List.range'_succ] at hl9
      exact ⟨(List.cons.inj hl9).1, (List.cons.inj hl9).2⟩
    obtain ⟨f1, f2, f3, f4⟩ := m3_fF s c c1 c2 n.toNatClampNeg m.toNatClampNeg l.toNatClampNeg (defaultValue type) x
    obtain ⟨o1, o2, o3⟩ := m3_oF c n.toNatClampNeg s.heap.size (1 + m.toNatClampNeg) x
    have hmulA : x * (1 + m.toNatClampNeg) + (1 + m.toNatClampNeg) ≤ n.toNatClampNeg * (1 + m.toNatClampNeg) := by
      have := Nat.mul_le_mul_right (1 + m.toNatClampNeg) (show x + 1 ≤ n.toNatClampNeg from hlt)
      rw [Nat.succ_mul] at this; exact this
    have hmulB : x * (m.toNatClampNeg + m.toNatClampNeg * l.toNatClampNeg) + (m.toNatClampNeg + m.toNatClampNeg * l.toNatClampNeg) ≤ n.toNatClampNeg * (m.toNatClampNeg + m.toNatClampNeg * l.toNatClampNeg) := by
      have := Nat.mul_le_mul_right (m.toNatClampNeg + m.toNatClampNeg * l.toNatClampNeg) (show x + 1 ≤ n.toNatClampNeg from hlt)
      rw [Nat.succ_mul] at this; exact this
    simp only [wp_bind']
    refine Jvm.Free.Multi.wp_make2 (k := k1) (kc := k2) (comp := c2) (cc := cc) (t0 := t1) (type := type) (by rw [f3]; exact hk1) hkind1 href1 (by rw [f3]; exact hk2) hkind2 hm hl hl2 hh2 hl3 hh3 hdf hdd (by rw [f1]; omega) (by rw [f4]; omega) (fun d9 acts9 => ?_)
    have hlt0 : s.heap.size < (m3_f s c c1 c2 n.toNatClampNeg m.toNatClampNeg l.toNatClampNeg (defaultValue type) x).heap.size := by rw [f1]; omega
    obtain ⟨-, -, g3, -⟩ := Jvm.Free.Multi.fill_facts (m3_f s c c1 c2 n.toNatClampNeg m.toNatClampNeg l.toNatClampNeg (defaultValue type) x) c1 c2 m.toNatClampNeg l.toNatClampNeg (defaultValue type) m.toNatClampNeg
    simp only [wp_bind', Jvm.W.writeLoc, wp_pure']
    refine ⟨m3_o c n.toNatClampNeg s.heap.size (1 + m.toNatClampNeg) x, by rw [Jvm.Free.Multi.fill_old (ha := hlt0)]; exact f2, by rw [o2]; simp, by rw [o3]; exact hlt, ?_, hnext _ _ _ ⟨x + 1, hlt, hrest, ?_⟩⟩
    · rw [o1, o2]
      simp [State.fitsSlot, State.slotType?, g3, f3, hk, hkind, Jvm.Free.Multi.refFits href _ (Or.inr ⟨_, rfl⟩)]
    · rw [f1]; rfl
  · rintro s' d' acts' ⟨i, hi, hl9, rfl⟩
    have hiN : i = n.toNatClampNeg := by
      rcases Nat.lt_or_ge i n.toNatClampNeg with h | h
      · rw [show n.toNatClampNeg - i = (n.toNatClampNeg - (i + 1)) + 1 from by omega, List.range'_succ] at hl9; cases hl9
      · omega
    subst hiN
    simp only [wp_pure']
    exact hq _ _
end
section
variable {p : Program} {l : Launch} {e : Env} {R : Room} {s : State} {m : MethodId} {args : Array Value} {below : List Frame} {meth : Method} {c : Code} {T : State} {locs : List Loc} {cells slots : Nat}
/-- what was filled is new: nothing old is written -/
theorem m3_stand (X : Stand p l e R s m args below meth c T locs cells slots) (c0 c1 c2 : ClassId) (n k ll : Nat) (dv : Value) :
    ∀ i, Stand p l e R s m args below meth c (m3_f T c0 c1 c2 n k ll dv i) locs (cells + 1 + i * (1 + k)) (slots + n + i * (k + k * ll))
  | 0 => by
    have h := X.pushed (m3_o c0 n T.heap.size (1 + k) 0)
    rw [(m3_oF c0 n T.heap.size (1 + k) 0).2.2] at h
    simpa [m3_f] using h
  | i + 1 => by
    have Xi := m3_stand X c0 c1 c2 n k ll dv i
    obtain ⟨f1, f2, f3, f4⟩ := m3_fF T c0 c1 c2 n k ll dv i
    have hlt0 : T.heap.size < (m3_f T c0 c1 c2 n k ll dv i).heap.size := by rw [f1]; omega
    have h1 := Xi.filled c1 c2 k ll dv k
    have h2 := h1.dropFresh (fun x hx => by
      obtain ⟨j, -, rfl⟩ := List.mem_map.mp hx
      exact Xi.heapGrown)
    have hcell : (Jvm.Free.Multi.fill (m3_f T c0 c1 c2 n k ll dv i) c1 c2 k ll dv k).heap[T.heap.size]? = some (m3_o c0 n T.heap.size (1 + k) i) := by rw [Jvm.Free.Multi.fill_old (ha := hlt0)]; exact f2
    have h3 := h2.stored hcell i (.ref (T.heap.size + 1 + i * (1 + k)))
    have h4 := h3.dropFresh (J := [⟨T.heap.size, i⟩]) (fun x hx => by
      rw [List.mem_singleton.mp hx]
      exact X.heapGrown)
    have e1 : cells + 1 + i * (1 + k) + 1 + k = cells + 1 + (i + 1) * (1 + k) := by rw [Nat.succ_mul]; omega
    have e2 : slots + n + i * (k + k * ll) + k + k * ll = slots + n + (i + 1) * (k + k * ll) := by rw [Nat.succ_mul]; omega
    rw [e1, e2] at h4
    exact h4
theorem m3_run (X : Stand p l e R s m args below meth c T locs cells slots) (hexec : p.tables.exec = Jvm.exec) {own : String} {index : Nat} {ty : FieldType}
    (hown : s.vm.findClass own = some m.cls) (hclink : (Cond.classLink own index ("[" ++ (FieldType.array (.array ty)).toString)).before args s = true)
    (hover : (Cond.arrayOver (.array (.array ty))).before args s = true) (hover2 : (Cond.arrayOver (.array ty)).before args s = true) (harr : (Cond.arrayClass ty).before args s = true)
    {g : JFrame} (hg : g.method = m) (hdg : decode c.code g.pc = .ok (.multianewarray index 3, 4)) {n k j : Int32} {rest : List Value} (hstack : g.stack = .int j :: .int k :: .int n :: rest)
    (hn : ¬ n < 0) (hk : ¬ k < 0) (hj : ¬ j < 0) (hb1 : n.toNatClampNeg ≤ 1000) (hb2 : k.toNatClampNeg ≤ 1000) (hb3 : j.toNatClampNeg ≤ 1000) (hby : componentBytes ty ≤ 8)
    (hdf : fits ty (defaultValue ty) = true) (hdd : (defaultValue ty).isDefault = true)
    (hcells : cells + (1 + n.toNatClampNeg * (1 + k.toNatClampNeg)) ≤ R.cells) (hslots : slots + (n.toNatClampNeg + n.toNatClampNeg * (k.toNatClampNeg + k.toNatClampNeg * j.toNatClampNeg)) ≤ R.slots) :
    ∃ (vm₁ : Vm) (c0 c1 c2 : ClassId), s.vm.findClass ("[" ++ (FieldType.array (.array ty)).toString) = some c0 ∧ s.vm.findClass (FieldType.array (.array ty)).toString = some c1 ∧ s.vm.findClass (FieldType.array ty).toString = some c2 ∧
      Stand p l e R s m args below meth c (m3_f (T.setVm vm₁) c0 c1 c2 n.toNatClampNeg k.toNatClampNeg j.toNatClampNeg (defaultValue ty) n.toNatClampNeg) locs (cells + 1 + n.toNatClampNeg * (1 + k.toNatClampNeg)) (slots + n.toNatClampNeg + n.toNatClampNeg * (k.toNatClampNeg + k.toNatClampNeg * j.toNatClampNeg)) ∧
      ∀ target, Steps p.tables e below ((m3_f (T.setVm vm₁) c0 c1 c2 n.toNatClampNeg k.toNatClampNeg j.toNatClampNeg (defaultValue ty) n.toNatClampNeg).setTop { g with pc := g.pc + 4, stack := .ref T.heap.size :: rest }) target →
        Steps p.tables e below (T.setTop g) target := by
  subst hg
  have hpl : e.platform.magicAccessors = ({} : Platform).magicAccessors := by rw [X.admits.platform]
  obtain ⟨c1, c0, k0, hc1, hk0, hkind0, hname0⟩ := Cond.arrayOver_specA hover
  obtain ⟨c2, c1', k1, hc2, hk1, hkind1, hname1⟩ := Cond.arrayOver_specA hover2
  obtain ⟨c2', k2, cc, hc2', hk2, hkind2⟩ := Cond.arrayClass_spec harr
  have e1 : c1' = c1 := Option.some.inj (hname1.symm.trans hc1)
  subst e1
  have e2 : c2' = c2 := Option.some.inj (hc2'.symm.trans hc2)
  subst e2
  obtain ⟨c9, hfc0, hcl⟩ := Cond.classLink_spec hown hclink e.platform hpl
  cases hname0.symm.trans hfc0
  obtain ⟨hg₁, hwarm₁, hready₁⟩ := State.classEntry (e := e) X.warmed hcl
  generalize T.vm.noted g.method.cls index (.cls c0) = vm₁ at hg₁ hwarm₁ hready₁
  have hal : s.vm.Alike vm₁ := hwarm₁.alike
  obtain ⟨k0', hk0', he0⟩ := hal.2.2 _ _ hk0
  obtain ⟨k1', hk1', he1⟩ := hal.2.2 _ _ hk1
  obtain ⟨k2', hk2', he2⟩ := hal.2.2 _ _ hk2
  have hkind0' : k0'.kind = .array c1' (.array (.array ty)) := by rw [he0]; exact hkind0
  have hkind1' : k1'.kind = .array c2' (.array ty) := by rw [he1]; exact hkind1
  have hkind2' : k2'.kind = .array cc ty := by rw [he2]; exact hkind2
  have X₁ := X.noted hwarm₁
  obtain ⟨hr1, hr2⟩ := X.roomAbove hcells hslots
  refine ⟨vm₁, c0, c1', c2', hname0, hc1, hc2, m3_stand X₁ c0 c1' c2' _ _ _ _ _, fun target hrest => ?_⟩
  have hlim : ∀ z : Nat, z ≤ 1000 → ¬ z > e.platform.arrayLengthLimit := fun z hz => by rw [Launch.admits_arrayLengthLimit X.admits]; omega
  have hhp : ∀ z w : Nat, z ≤ 1000 → w ≤ 8 → ¬ z * w > e.platform.maxHeapBytes := fun z w hz hw => by
    rw [Launch.admits_maxHeapBytes X.admits]
    have := Nat.mul_le_mul hz hw
    omega
  jvm_step X.here [hexec, hdg]
  simp only [multianewarray.sem, wp_bind', Jvm.W.resolveClassAt_links (State.method?_setTop g X.here.top) hg₁]
  rw [Jvm.W.popN, if_neg (by decide)]
  refine ⟨g, State.topJava?_setTop' (s := T.setVm vm₁) g X.here.top, [.int n, .int k, .int j], rest, rfl, hstack, ?_⟩
  simp only [List.mapM_cons, List.mapM_nil, wp_bind', wp_pure']
  refine m3_wp (k := k0') (k1 := k1') (k2 := k2') (c1 := c1') (c2 := c2') (cc := cc) (t0 := .array (.array ty)) (t1 := .array ty) (type := ty) hk0' hkind0' rfl hk1' hkind1' rfl hk2' hkind2' hn hk hj (hlim _ hb1) (hhp _ 4 hb1 (by omega)) (hlim _ hb2) (hhp _ 4 hb2 (by omega)) (hlim _ hb3) (hhp _ _ hb3 hby) hdf hdd (by show T.heap.size + 1 + _ ≤ _; omega) (by show T.slotsUsed + _ + _ ≤ _; omega) (fun d' acts' => ?_)
  have XF := m3_stand X₁ c0 c1' c2' n.toNatClampNeg k.toNatClampNeg j.toNatClampNeg (defaultValue ty) n.toNatClampNeg
  have eS : ((T.setTop g).setVm vm₁).setTop { g with stack := rest } = (T.setVm vm₁).setTop { g with stack := rest } := by
    show ((T.setVm vm₁).setTop g).setTop _ = _
    rw [State.setTop_setTop]
  rw [eS, m3_fT]
  simp only [wp_bind', Jvm.W.mark, Jvm.W.pushRef, State.topJava?_setTop' _ XF.here.top, Option.some.injEq, exists_eq_left', State.setTop_setTop, State.heap_setTop]
  intro acts
  simp [jvm, XF.here.top]
  exact hrest
end
