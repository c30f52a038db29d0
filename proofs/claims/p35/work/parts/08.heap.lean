/-! ===== BEGIN a constructor that throws (launches without stack traces) ===== -/
section VXIA
variable {p : Program} {l : Launch} {e : Env} {R : Room} {s : State} {m : MethodId} {args : Array Value} {below : List Frame} {meth : Method} {c : Code} {T : State} {locs : List Loc} {cells slots : Nat}
theorem vx_callI (X : Stand p l e R s m args below meth c T locs cells slots) (hexec : p.tables.exec = Jvm.exec) {own : String} {index : Nat} {y : MethodName} {bytes : ByteArray} {maxL : Nat}
    (hown : s.vm.findClass own = some m.cls) (hy1 : y.name = "<init>") (hlink : (Cond.methodLink own index y).before args s = true) (hinst : (Cond.instanceMethod y).before args s = true)
    (hcode : (Cond.code y bytes maxL none).before args s = true) (hy : y.cls ≠ "java/lang/invoke/MethodHandle" ∧ y.cls ≠ "java/lang/invoke/VarHandle")
    {W9 : Nat} {Pre : Pt → Array Value → Prop} {Post : Pt → Array Value → Option Value → Pt → Prop} {PostX : Pt → Array Value → Addr → Pt → Prop} (hK : vx_Back l R p e below s args y 3 W9 Pre Post PostX)
    {g : JFrame} (hg : g.method = m) (hsize : g.locals.size = c.maxLocals) {a : Addr} {argsL rest : List Value} (hlen : ∀ sig, parseMethodDescriptor y.desc = some sig → argsL.length = sig.parameters.length)
    (hstack : g.stack = argsL.reverse ++ .ref a :: rest) (hW : 2 * g.monitorRoom + (rest.map fun v => v.category).sum ≤ W9) (hdg : decode c.code g.pc = .ok (.invokespecial index, 3))
    (hpre : ∀ vm₁, s.WarmedH vm₁ → Pre ⟨T.setVm vm₁, locs, cells, slots⟩ (Value.ref a :: argsL).toArray) :
    (∃ (v : Option Value) (vm₁ : Vm) (B : Pt), s.WarmedH vm₁ ∧ Stand p l e R s m args below meth c B.U B.locs B.cells B.slots ∧ Post ⟨T.setVm vm₁, locs, cells, slots⟩ (Value.ref a :: argsL).toArray v B ∧
      ∀ target, Steps p.tables e below (B.U.setTop { g with pc := g.pc + 3, stack := v.toList ++ rest }) target → Steps p.tables e below (T.setTop g) target) ∨
    (∃ (q : Addr) (vm₁ : Vm) (B : Pt), s.WarmedH vm₁ ∧ Stand p l e R s m args below meth c B.U B.locs B.cells B.slots ∧ PostX ⟨T.setVm vm₁, locs, cells, slots⟩ (Value.ref a :: argsL).toArray q B ∧
      Steps p.tables e below (T.setTop g) ((B.U.setTop { g with stack := rest }).pushFrame (.throwing q))) := by
  subst hg
  have hpl : e.platform.magicAccessors = ({} : Platform).magicAccessors := by rw [X.admits.platform]
  obtain ⟨mk, methM, cM, kP, vm₁, hnamed, hmethM, hcodeM, -, hlocalsM, -, hkP, -, hW₁, hstep₁⟩ := Steps.initColdArgs (e := e) X.here hexec X.warmed hpl hown hy1 hy hlink hinst hcode (f := g) rfl hlen hstack hdg
  have X₁ := X.noted hW₁
  rcases hK g.method meth c ⟨T.setVm vm₁, locs, cells, slots⟩ { g with stack := rest } (.invokespecial index) mk (Value.ref a :: argsL).toArray X₁ rfl hsize hdg hW (X₁.named hnamed) (hpre vm₁ X₁.warmed) with ⟨v, B, X', hpost, hsteps⟩ | ⟨q, B, X', hpost, hsteps⟩
  · exact Or.inl ⟨v, vm₁, B, X₁.warmed, X', hpost, fun target h => hstep₁ _ fun acts => by rw [doInvoke_state]; exact hsteps.trans h⟩
  · exact Or.inr ⟨q, vm₁, B, X₁.warmed, X', hpost, hstep₁ _ fun acts => by rw [doInvoke_state]; exact hsteps⟩
end VXIA
section VXIB
variable {p : Program} {l : Launch} {e : Env} {R : Room} {s : State} {m : MethodId} {args : Array Value} {below : List Frame} {meth : Method} {c : Code} {H : Heap} {locs : List Loc} {cells slots : Nat}
variable {y : MethodName} {bytes cc : ByteArray} {maxL nL mc ms n index : Nat} {ret : Option FieldType} {ws : List Cond} {rm : Room} {Pc : Array Value → State → Prop} {Qc : Array Value → State → Outcome → State → Prop} {XC : String → State → State → Prop} {free : Addr → Prop} {Ts : List Cond} {own C : String} {b : Addr} {As rest : List Value} {g : JFrame}
theorem vx_runI (S : CallFix p m c cc nL s args Ts own) (hM : vx_Met l y ws rm Pc Qc XC mc ms free) (cw : CallB R s args own index y bytes maxL none ws rm mc ms n ∧ y.name = "<init>" ∧ (Cond.instanceMethod y).before args s = true) (hp : PreS s H Pc (.ref b :: As))
    (hg : g.method = m) (hn : As.length = n) (hsize : g.locals.size = nL) (hstack : g.stack = As.reverse ++ .ref b :: rest) (hW : 2 * g.monitorRoom + (rest.map fun v => v.category).sum ≤ 8) (hdg : decode cc g.pc = .ok (.invokespecial index, 3)) (hf : cells + mc ≤ R.cells ∧ slots + ms ≤ R.slots) :
    vx_Run p l e R s m args below meth c H locs cells slots mc ms g rest (Qc (Value.ref b :: As).toArray) XC free := by
  have hK : vx_Back l R p e below s args y 3 8 (PreOf R mc ms Pc) (PostOf Qc mc ms free) (vx_Post XC mc ms free) := vx_callBack cw.1 hM hp.1
  obtain ⟨⟨-, -, -, -, -, -, hcode, -, hy, hlen, hl⟩, hy1, hin⟩ := cw
  obtain ⟨hx, hb, hml, ho, -⟩ := S
  have hPc := hp.2
  intro T hT X
  rcases vx_callI X hx (bytes := bytes) (maxL := maxL) ho hy1 hl hin hcode hy hK hg (hsize.trans hml.symm) (a := b) (argsL := As) (rest := rest) (fun sig h => hn.trans (hlen sig h)) hstack hW (by rw [hb]; exact hdg)
    (fun vm₁ hW₁ => ⟨hf.1, hf.2, hPc (T.setVm vm₁) hT hW₁⟩) with ⟨v, vm₁, ⟨U', l2, c2, s2⟩, hW₁, X', ⟨g', mk, t, L, e1, e2, hq, h1, hL, h2, h3⟩, st⟩ | ⟨q, vm₁, ⟨U', l2, c2, s2⟩, hW₁, X', ⟨g', mk, t, L, E, ce, e1, e2, hq, hce, hcv, hcl, h1, hL, h2, h3⟩, st⟩
  · dsimp only [Pt.U, Pt.locs, Pt.cells, Pt.slots] at X' e1 e2 h1 h2 h3 st
    subst h1; subst h2; subst h3
    exact Or.inl ⟨v, (T.setVm vm₁).calling g' mk (Value.ref b :: As).toArray, t, U', L, hT, X', hL, e1, e2, hq, st⟩
  · dsimp only [Pt.U, Pt.locs, Pt.cells, Pt.slots] at X' e1 e2 h1 h2 h3 st hcl
    subst h1; subst h2; subst h3
    exact Or.inr ⟨q, (T.setVm vm₁).calling g' mk (Value.ref b :: As).toArray, t, U', L, E, ce, hT, X', hL, e1, e2, hq, hce, hcv, vx_cls hW₁ hcl, st⟩
end VXIB
/-! ===== END ===== -/
/-! ===== BEGIN a private constructor of a nest mate that throws ===== -/
section VXIC
variable {p : Program} {l : Launch} {e : Env} {R : Room} {s : State} {m : MethodId} {args : Array Value} {below : List Frame} {meth : Method} {c : Code} {T : State} {locs : List Loc} {cells slots : Nat}
theorem vx_callIN (X : Stand p l e R s m args below meth c T locs cells slots) (hexec : p.tables.exec = Jvm.exec) {own : String} {index : Nat} {host : String} {y : MethodName} {bytes : ByteArray} {maxL : Nat}
    (hown : s.vm.findClass own = some m.cls) (hy1 : y.name = "<init>") (hlink : (Cond.methodLinkNest own index y host).before args s = true) (hinst : (Cond.instanceMethod y).before args s = true)
    (hcode : (Cond.code y bytes maxL none).before args s = true) (hy : y.cls ≠ "java/lang/invoke/MethodHandle" ∧ y.cls ≠ "java/lang/invoke/VarHandle")
    {W9 : Nat} {Pre : Pt → Array Value → Prop} {Post : Pt → Array Value → Option Value → Pt → Prop} {PostX : Pt → Array Value → Addr → Pt → Prop} (hK : vx_Back l R p e below s args y 3 W9 Pre Post PostX)
    {g : JFrame} (hg : g.method = m) (hsize : g.locals.size = c.maxLocals) {a : Addr} {argsL rest : List Value} (hlen : ∀ sig, parseMethodDescriptor y.desc = some sig → argsL.length = sig.parameters.length)
    (hstack : g.stack = argsL.reverse ++ .ref a :: rest) (hW : 2 * g.monitorRoom + (rest.map fun v => v.category).sum ≤ W9) (hdg : decode c.code g.pc = .ok (.invokespecial index, 3))
    (hpre : ∀ vm₁, s.WarmedH vm₁ → Pre ⟨T.setVm vm₁, locs, cells, slots⟩ (Value.ref a :: argsL).toArray) :
    (∃ (v : Option Value) (vm₁ : Vm) (B : Pt), s.WarmedH vm₁ ∧ Stand p l e R s m args below meth c B.U B.locs B.cells B.slots ∧ Post ⟨T.setVm vm₁, locs, cells, slots⟩ (Value.ref a :: argsL).toArray v B ∧
      ∀ target, Steps p.tables e below (B.U.setTop { g with pc := g.pc + 3, stack := v.toList ++ rest }) target → Steps p.tables e below (T.setTop g) target) ∨
    (∃ (q : Addr) (vm₁ : Vm) (B : Pt), s.WarmedH vm₁ ∧ Stand p l e R s m args below meth c B.U B.locs B.cells B.slots ∧ PostX ⟨T.setVm vm₁, locs, cells, slots⟩ (Value.ref a :: argsL).toArray q B ∧
      Steps p.tables e below (T.setTop g) ((B.U.setTop { g with stack := rest }).pushFrame (.throwing q))) := by
  subst hg
  have hpl : e.platform.magicAccessors = ({} : Platform).magicAccessors := by rw [X.admits.platform]
  obtain ⟨mk, methM, cM, kP, vm₁, hnamed, hmethM, hcodeM, -, hlocalsM, -, hkP, -, hW₁, hstep₁⟩ := Steps.initColdArgsNest (e := e) X.here hexec X.warmed hpl hown hy1 hy hlink hinst hcode (f := g) rfl hlen hstack hdg
  have X₁ := X.noted hW₁
  rcases hK g.method meth c ⟨T.setVm vm₁, locs, cells, slots⟩ { g with stack := rest } (.invokespecial index) mk (Value.ref a :: argsL).toArray X₁ rfl hsize hdg hW (X₁.named hnamed) (hpre vm₁ X₁.warmed) with ⟨v, B, X', hpost, hsteps⟩ | ⟨q, B, X', hpost, hsteps⟩
  · exact Or.inl ⟨v, vm₁, B, X₁.warmed, X', hpost, fun target h => hstep₁ _ fun acts => by rw [doInvoke_state]; exact hsteps.trans h⟩
  · exact Or.inr ⟨q, vm₁, B, X₁.warmed, X', hpost, hstep₁ _ fun acts => by rw [doInvoke_state]; exact hsteps⟩
end VXIC
section VXID
variable {p : Program} {l : Launch} {e : Env} {R : Room} {s : State} {m : MethodId} {args : Array Value} {below : List Frame} {meth : Method} {c : Code} {H : Heap} {locs : List Loc} {cells slots : Nat}
theorem vx_runIN {y : MethodName} {bytes cc : ByteArray} {maxL nL mc ms n index : Nat} {ws : List Cond} {rm : Room} {Pc : Array Value → State → Prop} {Qc : Array Value → State → Outcome → State → Prop} {XC : String → State → State → Prop} {free : Addr → Prop} {Ts : List Cond} {own host : String} {b : Addr} {As rest : List Value} {g : JFrame}
    (S : CallFix p m c cc nL s args Ts own) (hM : vx_Met l y ws rm Pc Qc XC mc ms free) (cw : va_CN R s args own index y host bytes maxL none ws rm mc ms n ∧ y.name = "<init>" ∧ (Cond.instanceMethod y).before args s = true) (hp : PreS s H Pc (.ref b :: As))
    (hg : g.method = m) (hn : As.length = n) (hsize : g.locals.size = nL) (hstack : g.stack = As.reverse ++ .ref b :: rest) (hW : 2 * g.monitorRoom + (rest.map fun v => v.category).sum ≤ 8) (hdg : decode cc g.pc = .ok (.invokespecial index, 3)) (hf : cells + mc ≤ R.cells ∧ slots + ms ≤ R.slots) :
    vx_Run p l e R s m args below meth c H locs cells slots mc ms g rest (Qc (Value.ref b :: As).toArray) XC free := by
  obtain ⟨⟨⟨hrc, hrs, hfr, hlo, hws, hcw⟩, hcode, hini, hy, hlen, hl⟩, hx1, hx2⟩ := cw
  have hK : vx_Back l R p e below s args y 3 8 (PreOf R mc ms Pc) (PostOf Qc mc ms free) (vx_Post XC mc ms free) := vx_back (bytes := bytes) (maxL := maxL) (ret := none) hM hp.1 hrc hrs hfr hlo hws hcw (fun a' U hW => word_at hW (Or.inl (by first | rfl | simp [Cond.onTables, Cond.keeps, Cond.steady])) hini)
  obtain ⟨hx, hb, hml, ho, -⟩ := S
  have hPc := hp.2
  intro T hT X
  rcases vx_callIN X hx (bytes := bytes) (maxL := maxL) ho hx1 hl hx2 hcode hy hK hg (hsize.trans hml.symm) (a := b) (argsL := As) (rest := rest) (fun sig h => hn.trans (hlen sig h)) hstack hW (by rw [hb]; exact hdg)
    (fun vm₁ hW₁ => ⟨hf.1, hf.2, hPc (T.setVm vm₁) hT hW₁⟩) with ⟨v, vm₁, ⟨U', l2, c2, s2⟩, hW₁, X', ⟨g', mk, t, L, e1, e2, hq, h1, hL, h2, h3⟩, st⟩ | ⟨q, vm₁, ⟨U', l2, c2, s2⟩, hW₁, X', ⟨g', mk, t, L, E, ce, e1, e2, hq, hce, hcv, hcl, h1, hL, h2, h3⟩, st⟩
  · dsimp only [Pt.U, Pt.locs, Pt.cells, Pt.slots] at X' e1 e2 h1 h2 h3 st
    subst h1; subst h2; subst h3
    exact Or.inl ⟨v, (T.setVm vm₁).calling g' mk (Value.ref b :: As).toArray, t, U', L, hT, X', hL, e1, e2, hq, st⟩
  · dsimp only [Pt.U, Pt.locs, Pt.cells, Pt.slots] at X' e1 e2 h1 h2 h3 st hcl
    subst h1; subst h2; subst h3
    exact Or.inr ⟨q, (T.setVm vm₁).calling g' mk (Value.ref b :: As).toArray, t, U', L, E, ce, hT, X', hL, e1, e2, hq, hce, hcv, vx_cls hW₁ hcl, st⟩
end VXID
/-! ===== END ===== -/
set_option maxRecDepth 100000 in
theorem z_in0 : ∀ w ∈ wsX00, w ∈ z_tbl := z_placesG (ps := [218, 220, 222, 224]) rfl (by decide +kernel)
set_option maxRecDepth 100000 in
theorem z_in1 : ∀ w ∈ wsX10, w ∈ z_tbl := z_placesG (ps := [254, 256, 258]) rfl (by decide +kernel)
set_option maxRecDepth 100000 in
theorem z_in2 : ∀ w ∈ wsX20, w ∈ z_tbl := z_placesG (ps := [203]) rfl (by decide +kernel)
set_option maxRecDepth 100000 in
theorem z_in3 : ∀ w ∈ wsX30, w ∈ z_tbl := z_placesG (ps := [116, 118, 120, 122, 124, 126, 128, 130, 132, 134]) rfl (by decide +kernel)
set_option maxRecDepth 100000 in
theorem z_in4 : ∀ w ∈ wsX40, w ∈ z_tbl := z_placesG (ps := [272, 274, 276]) rfl (by decide +kernel)
set_option maxRecDepth 100000 in
theorem z_in5 : ∀ w ∈ wsX50, w ∈ z_tbl := z_placesG (ps := [187, 189, 191, 193]) rfl (by decide +kernel)
set_option maxRecDepth 100000 in
theorem z_in6 : ∀ w ∈ wsX60, w ∈ z_tbl := z_placesG (ps := [288, 290]) rfl (by decide +kernel)
set_option maxRecDepth 100000 in
theorem z_in7 : ∀ w ∈ wsX70, w ∈ z_tbl := z_placesG (ps := [156, 158, 160, 162, 164, 166, 168]) rfl (by decide +kernel)
set_option maxRecDepth 100000 in
theorem z_in8 : ∀ w ∈ wsX80, w ∈ z_tbl := z_placesG (ps := [237, 239, 241, 243]) rfl (by decide +kernel)
set_option maxRecDepth 100000 in
theorem z_in9 : ∀ w ∈ wsX90, w ∈ z_tbl := z_placesG (ps := [304, 306, 308, 310, 312, 314, 316, 318, 320, 322, 324]) rfl (by decide +kernel)
set_option maxRecDepth 100000 in
theorem z_in10 : ∀ w ∈ wsX100, w ∈ z_tbl := z_placesG (ps := [402, 404, 406, 408, 410, 412, 414, 416, 418, 420, 422, 424]) rfl (by decide +kernel)
set_option maxRecDepth 100000 in
theorem z_in11 : ∀ w ∈ wsJ00, w ∈ z_tbl := z_placesG (ps := [652, 654, 656, 658]) rfl (by decide +kernel)
set_option maxRecDepth 100000 in
theorem z_in12 : ∀ w ∈ wsJ40, w ∈ z_tbl := z_placesG (ps := [352, 354, 356, 358]) rfl (by decide +kernel)
/-- a class of ours: its fields' types are told, their names are apart, their words are good, a new object's fields are as told -/
def z_tyk (t : FieldType) : Bool := match t with
  | .int => true
  | .byte => true
  | .boolean => true
  | .object _ => true
  | .array _ => true
  | _ => false
theorem z_clsok {ci N : Nat} {C : String} {T : u_T} (h : vwCl[ci]? = some (C, T, N)) {ty : Nat → FieldType} (ht : z_tys[ci]? = some ty) : (∀ k, k < N → parseFieldDescriptor (T k).2.2.1 = some (ty k)) ∧ (∀ a, a < N → ∀ b, b < N → a ≠ b → (T a).2.1 ≠ (T b).2.1) ∧ (∀ w ∈ u_ws C T N, w ∈ z_tbl) := by
  match ci, h, ht with
  | 0, h, ht => cases h; cases ht; exact ⟨tyX0_ok, nmX0, z_in0⟩
  | 1, h, ht => cases h; cases ht; exact ⟨tyX1_ok, nmX1, z_in1⟩
  | 2, h, ht => cases h; cases ht; exact ⟨tyX2_ok, nmX2, z_in2⟩
  | 3, h, ht => cases h; cases ht; exact ⟨tyX3_ok, nmX3, z_in3⟩
  | 4, h, ht => cases h; cases ht; exact ⟨tyX4_ok, nmX4, z_in4⟩
  | 5, h, ht => cases h; cases ht; exact ⟨tyX5_ok, nmX5, z_in5⟩
  | 6, h, ht => cases h; cases ht; exact ⟨tyX6_ok, nmX6, z_in6⟩
  | 7, h, ht => cases h; cases ht; exact ⟨tyX7_ok, nmX7, z_in7⟩
  | 8, h, ht => cases h; cases ht; exact ⟨tyX8_ok, nmX8, z_in8⟩
  | 9, h, ht => cases h; cases ht; exact ⟨tyX9_ok, nmX9, z_in9⟩
  | 10, h, ht => cases h; cases ht; exact ⟨tyX10_ok, nmX10, z_in10⟩
  | 11, h, ht => cases h; cases ht; exact ⟨tyJ0_ok, nmJ0, z_in11⟩
  | 12, h, ht => cases h; cases ht; exact ⟨tyJ4_ok, nmJ4, z_in12⟩
  | k + 13, h, ht => simp [vwCl] at h
def z_dfok (q : (vw_C × (Nat → FieldType)) × List Value) : Bool := (List.range q.1.1.2.2).all fun j => decide (defaultValue (q.1.2 j) = vp_V q.2 j) && z_tyk (q.1.2 j)
theorem z_dfs_ok : ((vwCl.zip z_tys).zip z_dfs).all z_dfok = true := by decide +kernel
theorem z_dfs_at {ci N : Nat} {C : String} {T : u_T} (h : vwCl[ci]? = some (C, T, N)) {ty : Nat → FieldType} (ht : z_tys[ci]? = some ty) {fs : List Value} (hf : z_dfs[ci]? = some fs) : ∀ j, j < N → defaultValue (ty j) = vp_V fs j ∧ z_tyk (ty j) = true := by
  intro j hj
  have h1 : ((vwCl.zip z_tys).zip z_dfs)[ci]? = some (((C, T, N), ty), fs) := by
    simp [List.getElem?_zip_eq_some, h, ht, hf]
  have h2 := List.all_eq_true.mp z_dfs_ok _ (List.mem_of_getElem? h1)
  have h3 := List.all_eq_true.mp h2 j (List.mem_range.mpr hj)
  simpa using h3
theorem z_tys_len : z_tys.length = vwCl.length ∧ z_dfs.length = vwCl.length := by decide
theorem z_dfs_some {ci : Nat} {q : vw_C} (h : vwCl[ci]? = some q) : ∃ ty fs, z_tys[ci]? = some ty ∧ z_dfs[ci]? = some fs := by
  have h1 := (List.getElem?_eq_some_iff.mp h).1
  have h2 : ci < z_tys.length := by rw [z_tys_len.1]; exact h1
  have h3 : ci < z_dfs.length := by rw [z_tys_len.2]; exact h1
  exact ⟨_, _, List.getElem?_eq_getElem h2, List.getElem?_eq_getElem h3⟩
theorem z_isRt_of {t : FieldType} (h : z_isRt t = true) : (∀ a : Nat, narrow t (.ref a) = .ref a ∧ fits t (.ref a) = true) ∧ narrow t .null = .null ∧ fits t .null = true := by
  cases t <;> first | (simp [z_isRt] at h; done) | exact ⟨fun a => ⟨rfl, rfl⟩, rfl, rfl⟩
/-- what the tables say of a field -/
theorem z_flA_spec {l : List ((String × Nat) × (Nat × Nat × Nat))} {own : String} {idx ci k : Nat} {isR fin : Bool} (h : z_flA l own idx = some (ci, k, isR, fin)) : ∃ C T N ty wi, vwCl[ci]? = some (C, T, N) ∧ z_tys[ci]? = some ty ∧ ((own, idx), (ci, k, wi)) ∈ l ∧ isR = z_isRt (ty k) ∧ fin = (T k).2.2.2 := by
  unfold z_flA at h
  split at h
  · next ci' k' wi hlk =>
    split at h
    · next C T N ty h1 h2 =>
      have hm := z_lookup_mem hlk
      simp only [Option.some.injEq, Prod.mk.injEq] at h
      obtain ⟨rfl, rfl, rfl, rfl⟩ := h
      exact ⟨C, T, N, ty, wi, h1, h2, hm, rfl, rfl⟩
    · cases h
  · cases h
theorem z_fl_spec {own : String} {idx ci k : Nat} {isR fin : Bool} (h : z_fl own idx = some (ci, k, isR, fin)) : ∃ C T N ty, vwCl[ci]? = some (C, T, N) ∧ z_tys[ci]? = some ty ∧ k < N ∧ isR = z_isRt (ty k) ∧ fin = (T k).2.2.2 ∧
    (Cond.fieldLink own idx (T k).1 (T k).2.1 (T k).2.2.1 ∈ z_tbl ∨ (fin = false ∧ Cond.fieldLinkNest own idx (T k).1 (T k).2.1 (T k).2.2.1 own ∈ z_vw)) := by
  unfold z_fl at h
  split at h
  · next x hx =>
    cases h
    obtain ⟨C, T, N, ty, wi, h1, h2, hm, h3, h4⟩ := z_flA_spec hx
    have h5 := List.all_eq_true.mp z_fls_ok _ hm
    simp only [z_flok, h1, decide_eq_true_eq] at h5
    have h6 := z_placesG z_fl0 z_flg _ (List.mem_map_of_mem (f := z_flw) hm)
    exact ⟨C, T, N, ty, h1, h2, h5, h3, h4, Or.inl (by simpa [z_flw, h1] using h6)⟩
  · obtain ⟨C, T, N, ty, wi, h1, h2, hm, h3, h4⟩ := z_flA_spec h
    have h5 := List.all_eq_true.mp z_fns_ok _ hm
    simp only [z_fnok, h1, Bool.and_eq_true, decide_eq_true_eq, Bool.not_eq_true'] at h5
    have h6 := z_places z_fn0 _ (List.mem_map_of_mem (f := z_fnw) hm)
    simp only [z_fnw, h1] at h6
    exact ⟨C, T, N, ty, h1, h2, h5.1, h3, h4, Or.inr ⟨by rw [h4]; exact h5.2, List.mem_filter.mpr ⟨h6, rfl⟩⟩⟩
section ZHP
variable {p : Program} {l : Launch} {e : Env} {R : Room} {s : State} {m : MethodId} {args : Array Value} {below : List Frame} {meth : Method} {c : Code} {H : Heap} {locs : List Loc} {cells slots : Nat} {Q : State → Prop}
variable {D : va_G} {cA : FieldType → ClassId} {ra adV : Nat → Nat} {HB : Heap} {g : z_G} {mi pc pc' c0 s0 n : Nat} {lsR : Array Slot} {ls ls' st st' : List Value} {h h' : z_H} {i : Instr}
theorem z_noNest0 {own : String} {idx : Nat} : Cond.fieldLinkNest own idx (TJ0 0).1 (TJ0 0).2.1 (TJ0 0).2.2.1 own ∉ lw_tbl := by
  intro h
  have h1 : (lw_tbl.all fun w => match w with | .fieldLinkNest _ _ r _ _ _ => decide (r ≠ "java/lang/String") | _ => true) = true := by decide +kernel
  have := List.all_eq_true.mp h1 _ h
  simp [TJ0] at this
theorem z_noNest1 {own : String} {idx : Nat} : Cond.fieldLinkNest own idx (TJ0 1).1 (TJ0 1).2.1 (TJ0 1).2.2.1 own ∉ lw_tbl := by
  intro h
  have h1 : (lw_tbl.all fun w => match w with | .fieldLinkNest _ _ r _ _ _ => decide (r ≠ "java/lang/String") | _ => true) = true := by decide +kernel
  have := List.all_eq_true.mp h1 _ h
  simp [TJ0] at this
/-- the literals, over any heap -/
theorem z_strK (hE : z_EV D cA ra adV HB g s) (hr : z_HR D cA HB h H) : vk_S 6 [9, 3, 5, 10, 6, 4] [z_lit 0, z_lit 1, z_lit 2, z_lit 3, z_lit 4, z_lit 5] ra adV (z_A HB) s H := by
  obtain ⟨-, -, -, -, -, -, -, -, -, -, h1, -⟩ := hE
  exact h1.kept fun a h _ => hr.2.2.2 a h
theorem z_getK {A : Nat → Prop} {cc : ByteArray} {rest : List Value} (hexec : p.tables.exec = Jvm.exec) (hb : c.code = cc) {o n d own : String} {index q : Nat} {v : Value} (hE : va_OF o n d v q A s H) (hown : s.vm.findClass own = some m.cls) (hlink : (Cond.fieldLink own index o n d).before args s = true) (hdg : decode cc pc = .ok (.getfield index, 3))
    (kk : W p l e R s m args below meth c H locs cells slots Q (F0 m (pc + 3) lsR (v :: rest))) : W p l e R s m args below meth c H locs cells slots Q (F0 m pc lsR (.ref q :: rest)) := by
  obtain ⟨cf, k, fi, f, cell, h1, h2, h3, h4, h5, h6⟩ := hE
  exact W.getf hexec hb hown hlink h1 h2 h3 h4 (v := v) h5 rfl rfl hdg kk
theorem z_own_spec (hF : z_FR mi p l s m args meth c) : s.vm.findClass (z_own mi) = some m.cls := by
  obtain ⟨-, ⟨q, hq, -, -, h, -⟩, -⟩ := hF
  simp only [z_own, hq]
  exact h
set_option maxHeartbeats 1000000 in
theorem z_S_getfield {idx : Nat} (hF : z_FR mi p l s m args meth c) (hE : z_EV D cA ra adV HB g s) (hdg : decode c.code pc = .ok (.getfield idx, n)) (hn : z_len (.getfield idx) = 0 ∨ n = z_len (.getfield idx)) (hop : z_op g mi pc (.getfield idx) ls st h = some (.inl (.inl (pc', ls', st', h'))))
    (hr : z_HR D cA HB h H) (hl : z_LR ra lsR ls) (hS : ∀ q ∈ locs, HB.size ≤ q.base) (hc : cells + c0 = h.2.2.1) (hs : slots + s0 = h.2.2.2)
    (kk : z_KK p l e R s m args below meth c Q D cA ra HB c0 s0 pc' ls' st' h') : W p l e R s m args below meth c H locs cells slots Q (F0 m pc lsR (st.map (z_rv ra))) := by
  have hn : n = 3 := by simpa [z_len] using hn
  subst hn
  have hown := z_own_spec hF
  obtain ⟨hx, -, hts, -⟩ := hF
  simp only [z_op] at hop
  split at hop
  · next a r =>
    split at hop
    · next ci k isR fin ci' fs hfl hh =>
      split at hop
      · next e =>
        subst e
        obtain ⟨C, T, N, ty, h1, h2, h3, h6, h7, h5⟩ := z_fl_spec hfl
        have hP := hr.one hh
        obtain ⟨g1, g2, g3⟩ := z_clsok h1 h2
        have go : ∀ v : Value, fs[k]? = some v → W p l e R s m args below meth c H locs cells slots Q (F0 m (pc + 3) lsR (v :: r.map (z_rv ra))) → W p l e R s m args below meth c H locs cells slots Q (F0 m pc lsR ((Value.ref a :: r).map (z_rv ra))) := fun v hv k9 => by
          rcases h5 with h5 | ⟨-, h5⟩
          · exact va_get (D := D) (ci := ci') (C := C) (T := T) (N := N) (ref := (T k).1) hx rfl hts g3 hown hE.1 hP 0 rfl h1 k h3 (hts _ h5) (fun x hx => hx) hv hdg k9
          · exact va_getN (D := D) (ci := ci') (C := C) (T := T) (N := N) (ref := (T k).1) (host := z_own mi) hx rfl hts g3 hown hE.1 hP 0 rfl h1 k h3 (va_Nw.use rfl (hE.2.2.2.2.2.1 _ h5)) (fun x hx => hx) hv hdg k9
        split at hop
        · next x hv =>
          split at hop
          · cases hop
          · simp only [z_go, Option.some.injEq, Sum.inl.injEq, Prod.mk.injEq] at hop
            obtain ⟨rfl, rfl, rfl, rfl⟩ := hop
            exact go _ hv (kk _ _ _ _ _ hr hl hS hc hs)
        · next x hv =>
          split at hop
          · simp only [z_go, Option.some.injEq, Sum.inl.injEq, Prod.mk.injEq] at hop
            obtain ⟨rfl, rfl, rfl, rfl⟩ := hop
            exact go _ hv (kk _ _ _ _ _ hr hl hS hc hs)
          · cases hop
        · next hv =>
          split at hop
          · simp only [z_go, Option.some.injEq, Sum.inl.injEq, Prod.mk.injEq] at hop
            obtain ⟨rfl, rfl, rfl, rfl⟩ := hop
            exact go _ hv (kk _ _ _ _ _ hr hl hS hc hs)
          · cases hop
        · cases hop
      · cases hop
    · cases hop
  · next q r =>
    split at hop
    · next fin hfl =>
      split at hop
      · next hq =>
        simp only [z_go, Option.some.injEq, Sum.inl.injEq, Prod.mk.injEq] at hop
        obtain ⟨rfl, rfl, rfl, rfl⟩ := hop
        obtain ⟨C, T, N, ty, h1, h2, h3, h6, h7, h5⟩ := z_fl_spec hfl
        cases h1
        have hS6 := z_strK hE hr
        have e9 : Value.ref (adV q) = z_rv ra (.retAddr (50 + q)) := by
          show Value.ref (adV q) = Value.ref (ra (50 + q))
          rw [hE.2.2.2.2.2.2.2.2.2.2.2.2.2 q hq]
        rcases h5 with h5 | ⟨-, h5⟩
        · refine z_getK hx rfl (hS6.1 q hq).2.2.1 hown (hts _ h5) hdg ?_
          rw [e9]
          exact kk _ _ _ _ _ hr hl hS hc hs
        · exact absurd (List.mem_filter.mp h5).1 z_noNest0
      · cases hop
    · next fin hfl =>
      split at hop
      · next hq =>
        simp only [z_go, Option.some.injEq, Sum.inl.injEq, Prod.mk.injEq] at hop
        obtain ⟨rfl, rfl, rfl, rfl⟩ := hop
        obtain ⟨C, T, N, ty, h1, h2, h3, h6, h7, h5⟩ := z_fl_spec hfl
        cases h1
        have hS6 := z_strK hE hr
        rcases h5 with h5 | ⟨-, h5⟩
        · exact z_getK hx rfl (hS6.1 q hq).2.1 hown (hts _ h5) hdg (kk _ _ _ _ _ hr hl hS hc hs)
        · exact absurd (List.mem_filter.mp h5).1 z_noNest1
      · cases hop
    · cases hop
  · cases hop
set_option maxHeartbeats 1000000 in
theorem z_S_putfield {idx : Nat} (hF : z_FR mi p l s m args meth c) (hE : z_EV D cA ra adV HB g s) (hdg : decode c.code pc = .ok (.putfield idx, n)) (hn : z_len (.putfield idx) = 0 ∨ n = z_len (.putfield idx)) (hop : z_op g mi pc (.putfield idx) ls st h = some (.inl (.inl (pc', ls', st', h'))))
    (hr : z_HR D cA HB h H) (hl : z_LR ra lsR ls) (hS : ∀ q ∈ locs, HB.size ≤ q.base) (hc : cells + c0 = h.2.2.1) (hs : slots + s0 = h.2.2.2)
    (kk : z_KK p l e R s m args below meth c Q D cA ra HB c0 s0 pc' ls' st' h') : W p l e R s m args below meth c H locs cells slots Q (F0 m pc lsR (st.map (z_rv ra))) := by
  have hn : n = 3 := by simpa [z_len] using hn
  subst hn
  have hown := z_own_spec hF
  obtain ⟨hx, ⟨q9, hq9, -, -, hown9, hin9, -⟩, hts, -⟩ := hF
  simp only [z_op] at hop
  split at hop
  · next v a r =>
    split at hop
    · next ci k isR fin ci' fs hfl hh =>
      split at hop
      · next e =>
        obtain ⟨e, hlen, hfin, hvk, hnw⟩ := e
        subst e
        simp only [z_go, Option.some.injEq, Sum.inl.injEq, Prod.mk.injEq] at hop
        obtain ⟨rfl, rfl, rfl, rfl⟩ := hop
        obtain ⟨C, T, N, ty, h1, h2, h3, h6, h7, h5⟩ := z_fl_spec hfl
        obtain ⟨g1, g2, g3⟩ := z_clsok h1 h2
        obtain ⟨ty', fs', j1, j2⟩ := z_dfs_some h1
        cases h2.symm.trans j1
        have hnf : narrow (ty k) (z_rv ra v) = z_rv ra v ∧ fits (ty k) (z_rv ra v) = true ∧ z_rv ra v = v := by
          cases v with
          | int x =>
            simp only [z_nrw, h2] at hnw
            simp only [z_vk, h6, Bool.not_eq_true'] at hvk
            revert hnw hvk
            cases ty k <;> intro hnw hvk <;> first | exact ⟨rfl, rfl, rfl⟩ | (simp [z_isRt] at hvk; done) | (simp only [decide_eq_true_eq, Value.int.injEq] at hnw; subst hnw; exact ⟨rfl, rfl, rfl⟩) | (cases hnw; done)
          | ref x =>
            simp only [z_vk, h6] at hvk
            obtain ⟨f1, f2⟩ := (z_isRt_of hvk).1 x
            exact ⟨f1, f2, rfl⟩
          | null =>
            simp only [z_vk, h6] at hvk
            obtain ⟨f1, f2⟩ := (z_isRt_of hvk).2
            exact ⟨f1, f2, rfl⟩
          | _ => simp [z_vk] at hvk
        have hP := hr.one hh
        have hap := va_apart (own := z_own mi) hts g3 ty g1 g2 hE.1 h1
        obtain ⟨rr, k1, cell, q1, q2, q3, q4⟩ := hP 0 _ rfl
        have hr9 : rr = (C, T, N) := Option.some.inj (k1.symm.trans h1)
        subst hr9
        obtain ⟨hSl, hfc, kC, hkC, hkind⟩ := hE.1.1 ci' _ h1
        obtain ⟨cf, kf, fi, f, hi, hsl⟩ := hSl k h3
        have hlay := hts _ (g3 _ (u_in_lay h3))
        have hst := (u_facts hfc hkC (u_lays hts g3 h3) hi).1
        have fin1 : ∀ (H' : Heap) (locs' : List Loc), (∃ kk9, locs' = locs ++ [⟨a, kk9⟩]) → H'[a]? = some (cell.setSlot f.slot (z_rv ra v)) → H'.size = H.size → (∀ q, q ≠ a → H'[q]? = H[q]?) → W p l e R s m args below meth c H' locs' cells slots Q (F0 m (pc + 3) lsR (r.map (z_rv ra))) := by
          intro H' locs' hlocs e1 e2 e3
          rw [hsl, hnf.2.2] at e1
          refine kk _ _ _ _ _ (hr.up (c := .inr (ci', fs.set k v)) hh e2 e3 ⟨_, h1, t_OB.to (V := updV (vp_V fs) k v) ⟨_, e1, q2, q3, t_set q4 hap h3 v⟩ (fun j _ => vp_updV_set hlen v j)⟩) hl ?_ hc hs
          obtain ⟨kk9, rfl⟩ := hlocs
          intro q hq
          rcases List.mem_append.mp hq with z | z
          · exact hS q z
          · rw [List.mem_singleton.mp z]
            exact (hr.1 a _ hh).1
        have hi' : s.fieldFound? (T k).1 (T k).2.1 (T k).2.2.1 = some (cf, kf, fi, f) := hi
        cases hfv : fin with
        | false =>
          unfold u_lay at hlay
          rw [if_neg (by rw [← h7, hfv]; decide)] at hlay
          have h8 := u_store hfc hkC hkind hlay hi (g1 k h3) hnf.1 hnf.2.1
          rcases h5 with h5 | ⟨-, h5⟩
          · exact W.putK hx rfl (f := f) ⟨hown, hts _ h5, ⟨_, _, _, hi'⟩, hst⟩ (by rw [q2]; exact h8) q1 q3 (by rw [hsl]; exact k2_hasslot (q4 k h3)) rfl rfl hdg fun H' e1 e2 e3 => fin1 H' _ ⟨_, rfl⟩ e1 e2 e3
          · exact va_WputK hx rfl (f := f) hown (va_Nw.use rfl (hE.2.2.2.2.2.1 _ h5)) hi' hst (by rw [q2]; exact h8) q1 q3 (by rw [hsl]; exact k2_hasslot (q4 k h3)) rfl rfl hdg fun H' e1 e2 e3 => fin1 H' _ ⟨_, rfl⟩ e1 e2 e3
        | true =>
          rcases h5 with h5 | ⟨h5, -⟩
          · unfold u_lay at hlay
            rw [if_pos (by rw [← h7, hfv])] at hlay
            obtain ⟨f1, f2⟩ := hfin hfv
            have hC : (T k).1 = z_own mi := by
              simp only [z_dcl, h1] at f2
              exact f2
            have hcf : m.cls = cf := by
              obtain ⟨_, _, c', _, _, _, -, -, hf', -, -, -, hown2, -⟩ := Cond.laysFinal_spec hlay
              have e1 : c' = cf := by have := hi.symm.trans hf'; simp at this; exact this.1.symm
              rw [hC] at hown2
              rw [← e1]; exact Option.some.inj (hown.symm.trans hown2)
            have hin : meth.name = "<init>" := by
              simp only [z_isInit, hq9, decide_eq_true_eq] at f1
              exact hin9 f1
            have h8 := u_fits hfc hkC hkind (Or.inr hlay) hi (g1 k h3) hnf.1 hnf.2.1
            exact W.putFinK hx rfl hown (hts _ h5) hi' hst hcf hin (by rw [q2]; exact h8) q1 q3 (by rw [hsl]; exact k2_hasslot (q4 k h3)) rfl rfl hdg fun H' e1 e2 e3 => fin1 H' _ ⟨_, rfl⟩ e1 e2 e3
          · rw [h5] at hfv; cases hfv
      · cases hop
    · cases hop
  · cases hop
end ZHP
