-- ===== PART A: goes FIRST, ahead of the names: the tables' words, and 'selects' of the private methods out of them =====
/-- a private method of a class that the tables say can be made, by its rows of tables_1 -/
def lw_okq (q : MethodName × Nat) : Prop := (q.1.cls ≠ "java/lang/invoke/MethodHandle" ∧ q.1.cls ≠ "java/lang/invoke/VarHandle") ∧ Cond.instantiable q.1.cls q.2 ∈ tables_1 ∧ Cond.privateMethod q.1 ∈ tables_1 ∧ Cond.instanceMethod q.1 ∈ tables_1
theorem lw_p0 : lw_okq (⟨"java/lang/Throwable", "fillInStackTrace", "(I)Ljava/lang/Throwable;"⟩, 6) := ⟨⟨by decide +kernel, by decide +kernel⟩, List.mem_of_getElem? (i := 700) (by decide +kernel), List.mem_of_getElem? (i := 698) (by decide +kernel), List.mem_of_getElem? (i := 699) (by decide +kernel)⟩
theorem lw_p1 : lw_okq (⟨"LatinRectangles$Parser", "readHeader", "()Z"⟩, 4) := ⟨⟨by decide +kernel, by decide +kernel⟩, List.mem_of_getElem? (i := 141) (by decide +kernel), List.mem_of_getElem? (i := 738) (by decide +kernel), List.mem_of_getElem? (i := 739) (by decide +kernel)⟩
theorem lw_p2 : lw_okq (⟨"LatinRectangles$Text", "runEnd", "(II)I"⟩, 7) := ⟨⟨by decide +kernel, by decide +kernel⟩, List.mem_of_getElem? (i := 108) (by decide +kernel), List.mem_of_getElem? (i := 746) (by decide +kernel), List.mem_of_getElem? (i := 747) (by decide +kernel)⟩
theorem lw_p3 : lw_okq (⟨"LatinRectangles$Text", "readValue", "()V"⟩, 7) := ⟨⟨by decide +kernel, by decide +kernel⟩, List.mem_of_getElem? (i := 108) (by decide +kernel), List.mem_of_getElem? (i := 750) (by decide +kernel), List.mem_of_getElem? (i := 751) (by decide +kernel)⟩
theorem lw_p4 : lw_okq (⟨"LatinRectangles$Parser", "fail", "(I)Z"⟩, 4) := ⟨⟨by decide +kernel, by decide +kernel⟩, List.mem_of_getElem? (i := 141) (by decide +kernel), List.mem_of_getElem? (i := 761) (by decide +kernel), List.mem_of_getElem? (i := 762) (by decide +kernel)⟩
theorem lw_p5 : lw_okq (⟨"LatinRectangles$Parser", "readNumberWithin", "(II)Z"⟩, 4) := ⟨⟨by decide +kernel, by decide +kernel⟩, List.mem_of_getElem? (i := 141) (by decide +kernel), List.mem_of_getElem? (i := 765) (by decide +kernel), List.mem_of_getElem? (i := 766) (by decide +kernel)⟩
theorem lw_p6 : lw_okq (⟨"LatinRectangles$Parser", "readSemicolon", "()Z"⟩, 4) := ⟨⟨by decide +kernel, by decide +kernel⟩, List.mem_of_getElem? (i := 141) (by decide +kernel), List.mem_of_getElem? (i := 771) (by decide +kernel), List.mem_of_getElem? (i := 772) (by decide +kernel)⟩
theorem lw_p7 : lw_okq (⟨"LatinRectangles$Parser", "readStatement", "()Z"⟩, 4) := ⟨⟨by decide +kernel, by decide +kernel⟩, List.mem_of_getElem? (i := 141) (by decide +kernel), List.mem_of_getElem? (i := 775) (by decide +kernel), List.mem_of_getElem? (i := 776) (by decide +kernel)⟩
theorem lw_p8 : lw_okq (⟨"LatinRectangles$Parser", "readBan", "(II)Z"⟩, 4) := ⟨⟨by decide +kernel, by decide +kernel⟩, List.mem_of_getElem? (i := 141) (by decide +kernel), List.mem_of_getElem? (i := 781) (by decide +kernel), List.mem_of_getElem? (i := 782) (by decide +kernel)⟩
theorem lw_p9 : lw_okq (⟨"LatinRectangles$Parser", "readGiven", "(II)Z"⟩, 4) := ⟨⟨by decide +kernel, by decide +kernel⟩, List.mem_of_getElem? (i := 141) (by decide +kernel), List.mem_of_getElem? (i := 793) (by decide +kernel), List.mem_of_getElem? (i := 794) (by decide +kernel)⟩
theorem lw_p10 : lw_okq (⟨"LatinRectangles$Parser", "readNumber", "()Z"⟩, 4) := ⟨⟨by decide +kernel, by decide +kernel⟩, List.mem_of_getElem? (i := 141) (by decide +kernel), List.mem_of_getElem? (i := 797) (by decide +kernel), List.mem_of_getElem? (i := 798) (by decide +kernel)⟩
theorem lw_p11 : lw_okq (⟨"LatinRectangles", "checkCell", "(II)V"⟩, 11) := ⟨⟨by decide +kernel, by decide +kernel⟩, List.mem_of_getElem? (i := 30) (by decide +kernel), List.mem_of_getElem? (i := 861) (by decide +kernel), List.mem_of_getElem? (i := 862) (by decide +kernel)⟩
theorem lw_p12 : lw_okq (⟨"LatinRectangles", "checkRow", "(I)V"⟩, 11) := ⟨⟨by decide +kernel, by decide +kernel⟩, List.mem_of_getElem? (i := 30) (by decide +kernel), List.mem_of_getElem? (i := 865) (by decide +kernel), List.mem_of_getElem? (i := 866) (by decide +kernel)⟩
theorem lw_p13 : lw_okq (⟨"LatinRectangles$Forces", "bitsByReason", "(III)I"⟩, 1) := ⟨⟨by decide +kernel, by decide +kernel⟩, List.mem_of_getElem? (i := 165) (by decide +kernel), List.mem_of_getElem? (i := 946) (by decide +kernel), List.mem_of_getElem? (i := 947) (by decide +kernel)⟩
theorem lw_p14 : lw_okq (⟨"LatinRectangles$Forces", "elsewhereInRow", "(II)I"⟩, 1) := ⟨⟨by decide +kernel, by decide +kernel⟩, List.mem_of_getElem? (i := 165) (by decide +kernel), List.mem_of_getElem? (i := 952) (by decide +kernel), List.mem_of_getElem? (i := 953) (by decide +kernel)⟩
theorem lw_p15 : lw_okq (⟨"LatinRectangles$Forces", "elsewhereInColumn", "(II)I"⟩, 1) := ⟨⟨by decide +kernel, by decide +kernel⟩, List.mem_of_getElem? (i := 165) (by decide +kernel), List.mem_of_getElem? (i := 956) (by decide +kernel), List.mem_of_getElem? (i := 957) (by decide +kernel)⟩
def lw_privs_1 : List (MethodName × Nat) := [(⟨"java/lang/Throwable", "fillInStackTrace", "(I)Ljava/lang/Throwable;"⟩, 6), (⟨"LatinRectangles$Parser", "readHeader", "()Z"⟩, 4), (⟨"LatinRectangles$Text", "runEnd", "(II)I"⟩, 7), (⟨"LatinRectangles$Text", "readValue", "()V"⟩, 7), (⟨"LatinRectangles$Parser", "fail", "(I)Z"⟩, 4), (⟨"LatinRectangles$Parser", "readNumberWithin", "(II)Z"⟩, 4), (⟨"LatinRectangles$Parser", "readSemicolon", "()Z"⟩, 4), (⟨"LatinRectangles$Parser", "readStatement", "()Z"⟩, 4), (⟨"LatinRectangles$Parser", "readBan", "(II)Z"⟩, 4), (⟨"LatinRectangles$Parser", "readGiven", "(II)Z"⟩, 4), (⟨"LatinRectangles$Parser", "readNumber", "()Z"⟩, 4), (⟨"LatinRectangles", "checkCell", "(II)V"⟩, 11), (⟨"LatinRectangles", "checkRow", "(I)V"⟩, 11), (⟨"LatinRectangles$Forces", "bitsByReason", "(III)I"⟩, 1), (⟨"LatinRectangles$Forces", "elsewhereInRow", "(II)I"⟩, 1), (⟨"LatinRectangles$Forces", "elsewhereInColumn", "(II)I"⟩, 1)]
theorem lw_r1 : ∀ q ∈ lw_privs_1, lw_okq q := List.forall_mem_cons.mpr ⟨lw_p0, List.forall_mem_cons.mpr ⟨lw_p1, List.forall_mem_cons.mpr ⟨lw_p2, List.forall_mem_cons.mpr ⟨lw_p3, List.forall_mem_cons.mpr ⟨lw_p4, List.forall_mem_cons.mpr ⟨lw_p5, List.forall_mem_cons.mpr ⟨lw_p6, List.forall_mem_cons.mpr ⟨lw_p7, List.forall_mem_cons.mpr ⟨lw_p8, List.forall_mem_cons.mpr ⟨lw_p9, List.forall_mem_cons.mpr ⟨lw_p10, List.forall_mem_cons.mpr ⟨lw_p11, List.forall_mem_cons.mpr ⟨lw_p12, List.forall_mem_cons.mpr ⟨lw_p13, List.forall_mem_cons.mpr ⟨lw_p14, List.forall_mem_cons.mpr ⟨lw_p15, fun _ h => absurd h List.not_mem_nil⟩⟩⟩⟩⟩⟩⟩⟩⟩⟩⟩⟩⟩⟩⟩⟩
theorem lw_p16 : lw_okq (⟨"LatinRectangles", "checkCycle", "(III)V"⟩, 11) := ⟨⟨by decide +kernel, by decide +kernel⟩, List.mem_of_getElem? (i := 30) (by decide +kernel), List.mem_of_getElem? (i := 1004) (by decide +kernel), List.mem_of_getElem? (i := 1005) (by decide +kernel)⟩
theorem lw_p17 : lw_okq (⟨"LatinRectangles$Cycles", "columnWith", "(II)I"⟩, 3) := ⟨⟨by decide +kernel, by decide +kernel⟩, List.mem_of_getElem? (i := 215) (by decide +kernel), List.mem_of_getElem? (i := 1015) (by decide +kernel), List.mem_of_getElem? (i := 1016) (by decide +kernel)⟩
theorem lw_p18 : lw_okq (⟨"LatinRectanglesLaw$Grid", "goesOn", "(II)V"⟩, 12) := ⟨⟨by decide +kernel, by decide +kernel⟩, List.mem_of_getElem? (i := 338) (by decide +kernel), List.mem_of_getElem? (i := 1075) (by decide +kernel), List.mem_of_getElem? (i := 1076) (by decide +kernel)⟩
theorem lw_p19 : lw_okq (⟨"LatinRectangles$Completions", "countInWork", "(I)I"⟩, 4) := ⟨⟨by decide +kernel, by decide +kernel⟩, List.mem_of_getElem? (i := 175) (by decide +kernel), List.mem_of_getElem? (i := 1098) (by decide +kernel), List.mem_of_getElem? (i := 1099) (by decide +kernel)⟩
theorem lw_p20 : lw_okq (⟨"LatinRectangles$Completions", "bringTightest", "(I)I"⟩, 4) := ⟨⟨by decide +kernel, by decide +kernel⟩, List.mem_of_getElem? (i := 175) (by decide +kernel), List.mem_of_getElem? (i := 1105) (by decide +kernel), List.mem_of_getElem? (i := 1106) (by decide +kernel)⟩
theorem lw_p21 : lw_okq (⟨"LatinRectangles$Completions", "putLowest", "(II)V"⟩, 4) := ⟨⟨by decide +kernel, by decide +kernel⟩, List.mem_of_getElem? (i := 175) (by decide +kernel), List.mem_of_getElem? (i := 1121) (by decide +kernel), List.mem_of_getElem? (i := 1122) (by decide +kernel)⟩
theorem lw_p22 : lw_okq (⟨"LatinRectangles$Transversals", "isFree", "(IIII)Z"⟩, 4) := ⟨⟨by decide +kernel, by decide +kernel⟩, List.mem_of_getElem? (i := 196) (by decide +kernel), List.mem_of_getElem? (i := 1144) (by decide +kernel), List.mem_of_getElem? (i := 1145) (by decide +kernel)⟩
theorem lw_p23 : lw_okq (⟨"LatinRectangles$Transversals", "symbolBit", "(II)I"⟩, 4) := ⟨⟨by decide +kernel, by decide +kernel⟩, List.mem_of_getElem? (i := 196) (by decide +kernel), List.mem_of_getElem? (i := 1148) (by decide +kernel), List.mem_of_getElem? (i := 1149) (by decide +kernel)⟩
theorem lw_p24 : lw_okq (⟨"LatinRectanglesLaw$Grid", "across", "(I[I)I"⟩, 12) := ⟨⟨by decide +kernel, by decide +kernel⟩, List.mem_of_getElem? (i := 338) (by decide +kernel), List.mem_of_getElem? (i := 1156) (by decide +kernel), List.mem_of_getElem? (i := 1157) (by decide +kernel)⟩
theorem lw_p25 : lw_okq (⟨"LatinRectangles$Cycles", "isIntercalate", "(IIII)Z"⟩, 3) := ⟨⟨by decide +kernel, by decide +kernel⟩, List.mem_of_getElem? (i := 215) (by decide +kernel), List.mem_of_getElem? (i := 1187) (by decide +kernel), List.mem_of_getElem? (i := 1188) (by decide +kernel)⟩
def lw_privs_2 : List (MethodName × Nat) := [(⟨"LatinRectangles", "checkCycle", "(III)V"⟩, 11), (⟨"LatinRectangles$Cycles", "columnWith", "(II)I"⟩, 3), (⟨"LatinRectanglesLaw$Grid", "goesOn", "(II)V"⟩, 12), (⟨"LatinRectangles$Completions", "countInWork", "(I)I"⟩, 4), (⟨"LatinRectangles$Completions", "bringTightest", "(I)I"⟩, 4), (⟨"LatinRectangles$Completions", "putLowest", "(II)V"⟩, 4), (⟨"LatinRectangles$Transversals", "isFree", "(IIII)Z"⟩, 4), (⟨"LatinRectangles$Transversals", "symbolBit", "(II)I"⟩, 4), (⟨"LatinRectanglesLaw$Grid", "across", "(I[I)I"⟩, 12), (⟨"LatinRectangles$Cycles", "isIntercalate", "(IIII)Z"⟩, 3)]
theorem lw_r2 : ∀ q ∈ lw_privs_2, lw_okq q := List.forall_mem_cons.mpr ⟨lw_p16, List.forall_mem_cons.mpr ⟨lw_p17, List.forall_mem_cons.mpr ⟨lw_p18, List.forall_mem_cons.mpr ⟨lw_p19, List.forall_mem_cons.mpr ⟨lw_p20, List.forall_mem_cons.mpr ⟨lw_p21, List.forall_mem_cons.mpr ⟨lw_p22, List.forall_mem_cons.mpr ⟨lw_p23, List.forall_mem_cons.mpr ⟨lw_p24, List.forall_mem_cons.mpr ⟨lw_p25, fun _ h => absurd h List.not_mem_nil⟩⟩⟩⟩⟩⟩⟩⟩⟩⟩
def lw_privs : List (MethodName × Nat) := lw_privs_1 ++ (lw_privs_2)
def lw_tbl0 : List Cond := k2_sels lw_privs ++ tables_1
theorem lw_privs_ok : ∀ q ∈ lw_privs, lw_okq q := by
  show ∀ q ∈ lw_privs_1 ++ (lw_privs_2), lw_okq q
  exact List.forall_mem_append.mpr ⟨lw_r1, lw_r2⟩

/-- what the tables say of an array of arrays (the printed laws name it; this kit lacks it) -/
def va_AOA (ty : FieldType) (U : State) : Prop := (Cond.arrayOver (.array ty)).before #[] U = true
theorem va_AOA.of {ty : FieldType} {A : Array Value} {U : State} (h : (Cond.arrayOver (.array ty)).before A U = true) : va_AOA ty U := h
theorem va_AOA.use {ty : FieldType} {A : Array Value} {U : State} (h : va_AOA ty U) : (Cond.arrayOver (.array ty)).before A U = true := h

/-- private methods of AbstractStringBuilder, called on a StringBuilder -/
def zt_privs : List (MethodName × Nat × Nat) := [(⟨"java/lang/AbstractStringBuilder", "appendNull", "()Ljava/lang/AbstractStringBuilder;"⟩, 404, 405), (⟨"java/lang/AbstractStringBuilder", "ensureCapacityInternal", "(I)V"⟩, 408, 409), (⟨"java/lang/AbstractStringBuilder", "newCapacity", "(I)I"⟩, 412, 413), (⟨"java/lang/AbstractStringBuilder", "putStringAt", "(ILjava/lang/String;)V"⟩, 483, 484), (⟨"java/lang/AbstractStringBuilder", "inflateIfNeededFor", "(Ljava/lang/String;)V"⟩, 487, 488), (⟨"java/lang/AbstractStringBuilder", "inflate", "()V"⟩, 492, 493)]
def zt_sels : List Cond := zt_privs.map fun q => Cond.selects "java/lang/StringBuilder" q.1 q.1
def lw_tbl : List Cond := zt_sels ++ lw_tbl0
theorem zt_ok1 : ∀ q ∈ zt_privs, q.1.cls = "java/lang/AbstractStringBuilder" ∧ q.1.cls ≠ "java/lang/invoke/MethodHandle" ∧ q.1.cls ≠ "java/lang/invoke/VarHandle" := by decide +kernel
set_option maxRecDepth 100000 in
theorem zt_ok2 : zt_privs.map (fun q => tables_1[q.2.1]?) = zt_privs.map (fun q => some (Cond.privateMethod q.1)) := rfl
set_option maxRecDepth 100000 in
theorem zt_ok3 : zt_privs.map (fun q => tables_1[q.2.2]?) = zt_privs.map (fun q => some (Cond.instanceMethod q.1)) := rfl
theorem zt_mem {α β : Type} {l : List α} {f g : α → β} (h : l.map f = l.map g) {x : α} (hx : x ∈ l) : f x = g x := by
  induction l with
  | nil => cases hx
  | cons a l ih =>
    simp only [List.map_cons, List.cons.injEq] at h
    rcases List.mem_cons.mp hx with rfl | hx
    · exact h.1
    · exact ih h.2 hx
set_option maxRecDepth 100000 in
theorem zt_sup : tables_1[328]? = some (Cond.superclass "java/lang/StringBuilder" "java/lang/AbstractStringBuilder") := rfl
set_option maxRecDepth 100000 in
theorem zt_sam : tables_1[444]? = some (Cond.sameMethod "java/lang/AbstractStringBuilder" "java/lang/AbstractStringBuilder" "isLatin1" "()Z") := rfl
set_option maxRecDepth 100000 in
theorem zt_ins : tables_1[299]? = some (Cond.instantiable "java/lang/StringBuilder" 4) := rfl
theorem zt_selects {y : MethodName} {s : State} {args : Array Value} {n : Nat} (hc0 : y.cls = "java/lang/AbstractStringBuilder") (hy : y.cls ≠ "java/lang/invoke/MethodHandle" ∧ y.cls ≠ "java/lang/invoke/VarHandle")
    (hins : (Cond.instantiable "java/lang/StringBuilder" n).before args s = true) (hsup : (Cond.superclass "java/lang/StringBuilder" "java/lang/AbstractStringBuilder").before args s = true) (hsam : (Cond.sameMethod "java/lang/AbstractStringBuilder" "java/lang/AbstractStringBuilder" "isLatin1" "()Z").before args s = true) (hpriv : (Cond.privateMethod y).before args s = true) (hinst : (Cond.instanceMethod y).before args s = true) :
    (Cond.selects "java/lang/StringBuilder" y y).before args s = true := by
  obtain ⟨c, k, hc, hk, -, hniab, -, -⟩ := Cond.instantiable_spec hins
  obtain ⟨mk, methM, hnamed, hmethM, -, -⟩ := Cond.instanceMethod_spec hinst
  obtain ⟨ps, k1, kp, hps, hk1, hkp, -, -, -, hni⟩ := Cond.superclass_spec hc hsup
  have hfound : s.methodFound? y.cls y.name y.desc = some mk := State.methodFound?_of_named hnamed hy
  have hcls : s.vm.findClass y.cls = some mk.cls := findClass_of_methodNamed hnamed
  rw [hc0] at hcls
  have hpm : mk.cls = ps := Option.some.inj (hcls.symm.trans hps)
  have hsel : selectMethod {} s.vm c mk = .method mk := selectMethod_private hmethM (Cond.privateMethod_at hpriv mk methM hnamed hmethM)
  have hnk : kp.isInterface = false := by
    obtain ⟨cn, ck, r1, hcn, hck, hni9, -, -⟩ := Cond.sameMethod_found hsam
    cases hcn.symm.trans hps
    cases hck.symm.trans hkp
    exact hni9
  simp only [Cond.before, Cond.holds, Cond.value, hc, hfound, hnamed, hsel, hpm, hkp]
  simp; exact hnk
theorem zt_hts {args : Array Value} {s : State} (h : ∀ w ∈ lw_tbl0, w.before args s = true) : ∀ w ∈ lw_tbl, w.before args s = true := by
  intro w hw
  rcases List.mem_append.mp hw with hw | hw
  · obtain ⟨q, hq, rfl⟩ := List.mem_map.mp hw
    obtain ⟨h1, h2⟩ := zt_ok1 q hq
    have t : ∀ {w : Cond} {i : Nat}, tables_1[i]? = some w → w.before args s = true := fun e => h _ (List.mem_append_right _ (List.mem_of_getElem? e))
    exact zt_selects h1 h2 (t zt_ins) (t zt_sup) (t zt_sam) (t (zt_mem zt_ok2 hq)) (t (zt_mem zt_ok3 hq))
  · exact h w hw
