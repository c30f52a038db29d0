/-! the tables hold: every entry's words stand in the tables' words, at the places told (by rfl, list by list: the two sides are the same constants) -/
/-- the good words: what every method may use -/
def z_tbl : List Cond := lw_tbl.filter goodWord
theorem z_tbl_good : ∀ w ∈ z_tbl, goodWord w = true := fun _ h => (List.mem_filter.mp h).2
theorem z_goodIn {ws : List Cond} (h : ∀ w ∈ ws, w ∈ z_tbl) : GoodIn z_tbl ws := fun w hw => ⟨h w hw, good_of_word (z_tbl_good w (h w hw))⟩
theorem z_places {ps : List Nat} {ws : List Cond} (h : ps.map (fun i => lw_tbl[i]?) = ws.map some) : ∀ w ∈ ws, w ∈ lw_tbl := by
  intro w hw
  have h1 : some w ∈ ps.map (fun i => lw_tbl[i]?) := by rw [h]; exact List.mem_map_of_mem hw
  obtain ⟨i, -, hi⟩ := List.mem_map.mp h1
  exact List.mem_of_getElem? hi
theorem z_placesG {ps : List Nat} {ws : List Cond} (h : ps.map (fun i => lw_tbl[i]?) = ws.map some) (hg : ws.all goodWord = true) : ∀ w ∈ ws, w ∈ z_tbl := fun w hw =>
  List.mem_filter.mpr ⟨z_places h w hw, List.all_eq_true.mp hg w hw⟩
abbrev z_Me : Type := MethodName × ByteArray × Nat × Option FieldType × List (Nat × Nat × Nat × Nat)
def z_code (q : z_Me) : Cond := match q.2.2.2.2 with
  | [] => .code q.1 q.2.1 q.2.2.1 q.2.2.2.1
  | hh => .codeWith q.1 q.2.1 q.2.2.1 q.2.2.2.1 hh
def z_lookup {α β : Type} [DecidableEq α] (l : List (α × β)) (k : α) : Option β := match l with
  | [] => none
  | q :: r => if q.1 = k then some q.2 else z_lookup r k
theorem z_lookup_mem {α β : Type} [DecidableEq α] {l : List (α × β)} {k : α} {v : β} (h : z_lookup l k = some v) : (k, v) ∈ l := by
  induction l with
  | nil => cases h
  | cons q r ih =>
    unfold z_lookup at h
    split at h
    · rename_i e
      cases h
      rw [← e]
      exact List.mem_cons_self
    · exact List.mem_cons_of_mem _ (ih h)
-- the methods' own words: code, class initialised, static or instance, selects (of what is neither static nor a constructor)
set_option maxRecDepth 100000 in
theorem z_w0 : (z_mws.dropLast.map (fun q => q.2.1)).map (fun i => lw_tbl[i]?) = (z_meths.dropLast.map z_code).map some := rfl
set_option maxRecDepth 100000 in
theorem z_w0g : (z_meths.dropLast.map z_code).all goodWord = true := by decide +kernel
def z_mm : List (z_Me × (Bool × Nat × Nat × Nat × Nat) × (Nat × Bool)) := z_meths.dropLast.zip (z_mws.zip z_mns)
set_option maxRecDepth 100000 in
theorem z_w1 : (z_mm.map (fun q => q.2.1.2.2.1)).map (fun i => lw_tbl[i]?) = (z_mm.map (fun q => Cond.initialized q.1.1.cls)).map some := rfl
set_option maxRecDepth 100000 in
theorem z_w1g : (z_mm.map (fun q => Cond.initialized q.1.1.cls)).all goodWord = true := by decide +kernel
def z_stw (q : z_Me × (Bool × Nat × Nat × Nat × Nat) × (Nat × Bool)) : Cond := match q.2.1.1 with
  | true => .static q.1.1
  | false => .instanceMethod q.1.1
set_option maxRecDepth 100000 in
theorem z_w2 : (z_mm.map (fun q => q.2.1.2.2.2.1)).map (fun i => lw_tbl[i]?) = (z_mm.map z_stw).map some := rfl
set_option maxRecDepth 100000 in
theorem z_w2g : (z_mm.map z_stw).all goodWord = true := by decide +kernel
def z_ms : List (z_Me × (Bool × Nat × Nat × Nat × Nat) × (Nat × Bool)) := z_mm.filter (fun q => !(q.2.1.2.2.2.2 == 0))
set_option maxRecDepth 100000 in
theorem z_w3 : (z_ms.map (fun q => q.2.1.2.2.2.2)).map (fun i => lw_tbl[i]?) = (z_ms.map (fun q => Cond.selects q.1.1.cls q.1.1 q.1.1)).map some := rfl
set_option maxRecDepth 100000 in
theorem z_w3g : (z_ms.map (fun q => Cond.selects q.1.1.cls q.1.1 q.1.1)).all goodWord = true := by decide +kernel
def z_mnok (q : z_Me × (Bool × Nat × Nat × Nat × Nat) × (Nat × Bool)) : Bool := decide ((parseMethodDescriptor q.1.1.desc).map (fun d => d.parameters.length) = some q.2.2.1) && decide (q.1.1.cls ≠ "java/lang/invoke/MethodHandle") && decide (q.1.1.cls ≠ "java/lang/invoke/VarHandle") && plainName q.1.1.cls && (decide (q.1.1.name = "<init>") == q.2.2.2)
set_option maxRecDepth 100000 in
theorem z_mn_ok1 : (z_mm.take 120).all z_mnok = true := by decide +kernel
set_option maxRecDepth 100000 in
theorem z_mn_ok2 : (z_mm.drop 120).all z_mnok = true := by decide +kernel
def z_flw (q : (String × Nat) × (Nat × Nat × Nat)) : Cond := match vwCl[q.2.1]? with
  | some (_, T, _) => .fieldLink q.1.1 q.1.2 (T q.2.2.1).1 (T q.2.2.1).2.1 (T q.2.2.1).2.2.1
  | none => .tt
set_option maxRecDepth 100000 in
theorem z_fl0 : (z_fls.map (fun q => q.2.2.2)).map (fun i => lw_tbl[i]?) = (z_fls.map z_flw).map some := rfl
set_option maxRecDepth 100000 in
theorem z_flg : (z_fls.map z_flw).all goodWord = true := by decide +kernel
def z_flok (q : (String × Nat) × (Nat × Nat × Nat)) : Bool := match vwCl[q.2.1]? with
  | some (_, _, N) => decide (q.2.2.1 < N)
  | none => false
set_option maxRecDepth 100000 in
theorem z_fls_ok : z_fls.all z_flok = true := by decide +kernel
def z_fnw (q : (String × Nat) × (Nat × Nat × Nat)) : Cond := match vwCl[q.2.1]? with
  | some (_, T, _) => .fieldLinkNest q.1.1 q.1.2 (T q.2.2.1).1 (T q.2.2.1).2.1 (T q.2.2.1).2.2.1 q.1.1
  | none => .tt
set_option maxRecDepth 100000 in
theorem z_fn0 : (z_fns.map (fun q => q.2.2.2)).map (fun i => lw_tbl[i]?) = (z_fns.map z_fnw).map some := rfl
def z_fnok (q : (String × Nat) × (Nat × Nat × Nat)) : Bool := match vwCl[q.2.1]? with
  | some (_, T, N) => decide (q.2.2.1 < N) && !(T q.2.2.1).2.2.2
  | none => false
set_option maxRecDepth 100000 in
theorem z_fns_ok : z_fns.all z_fnok = true := by decide +kernel
def z_gsw (q : (String × Nat) × (Nat × Nat)) : Cond := match q.2.1 with
  | 0 => .fieldLink q.1.1 q.1.2 "java/lang/String" "COMPACT_STRINGS" "Z"
  | _ => .fieldLink q.1.1 q.1.2 "java/lang/Integer" "DigitOnes" "[B"
set_option maxRecDepth 100000 in
theorem z_gs0 : (z_gss.map (fun q => q.2.2)).map (fun i => lw_tbl[i]?) = (z_gss.map z_gsw).map some := rfl
set_option maxRecDepth 100000 in
theorem z_gsg : (z_gss.map z_gsw).all goodWord = true := by decide +kernel
def z_clw (q : (String × Nat) × (Nat × Nat × Nat × Nat)) : Cond := match z_meths[q.2.1]?, q.2.2.1 with
  | some m, 3 => .methodLinkNest q.1.1 q.1.2 m.1 q.1.1
  | some m, 4 => .methodLink q.1.1 q.1.2 ⟨"java/lang/AbstractStringBuilder", m.1.name, m.1.desc⟩
  | some m, _ => .methodLink q.1.1 q.1.2 m.1
  | none, _ => .tt
set_option maxRecDepth 100000 in
theorem z_cl0 : (z_cls.map (fun q => q.2.2.2.2)).map (fun i => lw_tbl[i]?) = (z_cls.map z_clw).map some := rfl
set_option maxRecDepth 100000 in
theorem z_clg : ((z_cls.filter (fun q => decide (q.2.2.1 ≠ 3))).map z_clw).all goodWord = true := by decide +kernel
def z_clok (q : (String × Nat) × (Nat × Nat × Nat × Nat)) : Bool := match z_mm[q.2.1]? with
  | some m => decide (m.2.2.1 = q.2.2.2.1) && (if q.2.2.1 = 1 then m.2.1.1 else !m.2.1.1) && (if q.2.2.1 = 2 ∨ q.2.2.1 = 3 then m.2.2.2 else !m.2.2.2) && (decide (q.2.2.1 ≠ 0) || !(m.2.1.2.2.2.2 == 0)) && decide (q.2.2.1 ≤ 5)
  | none => false
set_option maxRecDepth 100000 in
theorem z_cls_ok : z_cls.all z_clok = true := by decide +kernel
def z_nww (q : (String × Nat) × (Nat × Nat × Nat × Nat)) : List Cond := match vwCl[q.2.1]? with
  | some (C, _, N) => [.classLink q.1.1 q.1.2 C, .instantiable C N, .initialized C]
  | none => []
set_option maxRecDepth 100000 in
theorem z_nw0 : (z_nws.flatMap (fun q => [q.2.2.1, q.2.2.2.1, q.2.2.2.2])).map (fun i => lw_tbl[i]?) = (z_nws.flatMap z_nww).map some := rfl
set_option maxRecDepth 100000 in
theorem z_nwg : (z_nws.flatMap z_nww).all goodWord = true := by decide +kernel
set_option maxRecDepth 100000 in
theorem z_oi0 : (z_oiw.1 :: z_oiw.2 :: z_ois.map (fun q => q.2)).map (fun i => lw_tbl[i]?) = ((.instanceMethod objectInit : Cond) :: .code objectInit ⟨#[0xb1]⟩ 1 none :: z_ois.map (fun q => .methodLink q.1.1 q.1.2 objectInit)).map some := rfl
set_option maxRecDepth 100000 in
theorem z_oig : ((.instanceMethod objectInit : Cond) :: .code objectInit ⟨#[0xb1]⟩ 1 none :: z_ois.map (fun q => .methodLink q.1.1 q.1.2 objectInit)).all goodWord = true := by decide +kernel
set_option maxRecDepth 100000 in
theorem z_ks0 : (z_kss.map (fun q => q.2.2)).map (fun i => lw_tbl[i]?) = (z_kss.map (fun q => Cond.constant q.1.1 q.1.2 q.2.1)).map some := rfl
set_option maxRecDepth 100000 in
theorem z_ksg : (z_kss.map (fun q => Cond.constant q.1.1 q.1.2 q.2.1)).all goodWord = true := by decide +kernel
set_option maxRecDepth 100000 in
theorem z_ac0 : (z_acs.map (fun q => q.2)).map (fun i => lw_tbl[i]?) = (z_acs.map (fun q => Cond.arrayClass q.1)).map some := rfl
set_option maxRecDepth 100000 in
theorem z_acg : (z_acs.map (fun q => Cond.arrayClass q.1)).all goodWord = true := by decide +kernel
def z_maw (q : (String × Nat) × (Nat × Nat)) : Cond := match q.2.1 with
  | 0 => .classLink q.1.1 q.1.2 "[[I"
  | 1 => .classLink q.1.1 q.1.2 "[[Z"
  | _ => .classLink q.1.1 q.1.2 "[[[Z"
set_option maxRecDepth 100000 in
theorem z_ma0 : (z_mas.map (fun q => q.2.2)).map (fun i => lw_tbl[i]?) = (z_mas.map z_maw).map some := rfl
set_option maxRecDepth 100000 in
theorem z_mag : (z_mas.map z_maw).all goodWord = true := by decide +kernel
def z_ccw (q : (String × Nat) × (Nat × Nat)) : Cond := match q.2.1 with
  | 0 => .classLink q.1.1 q.1.2 "[I"
  | _ => .classLink q.1.1 q.1.2 "[B"
set_option maxRecDepth 100000 in
theorem z_cc0 : (z_ccs.map (fun q => q.2.2)).map (fun i => lw_tbl[i]?) = (z_ccs.map z_ccw).map some := rfl
set_option maxRecDepth 100000 in
theorem z_ccg : (z_ccs.map z_ccw).all goodWord = true := by decide +kernel
def z_cnm (k : Nat) : String := match k with
  | 0 => "[I"
  | _ => "[B"
def z_cnw (q : (String × Nat) × (Nat × Nat)) : Cond := .methodLink q.1.1 q.1.2 ⟨z_cnm q.2.1, "clone", "()Ljava/lang/Object;"⟩
set_option maxRecDepth 100000 in
theorem z_cn0 : (z_cns.map (fun q => q.2.2)).map (fun i => lw_tbl[i]?) = (z_cns.map z_cnw).map some := rfl
set_option maxRecDepth 100000 in
theorem z_cng : (z_cns.map z_cnw).all goodWord = true := by decide +kernel
def z_clone0 (k : Nat) : List Cond := [.sameMethod (z_cnm k) "java/lang/Object" "clone" "()Ljava/lang/Object;", .selects (z_cnm k) ⟨z_cnm k, "clone", "()Ljava/lang/Object;"⟩ ⟨"java/lang/Object", "clone", "()Ljava/lang/Object;"⟩, .castable (z_cnm k) "java/lang/Cloneable"]
def z_cloneW : List Cond := z_clone0 0 ++ z_clone0 1 ++ [.native ⟨"java/lang/Object", "clone", "()Ljava/lang/Object;"⟩, .instanceMethod ⟨"java/lang/Object", "clone", "()Ljava/lang/Object;"⟩]
set_option maxRecDepth 100000 in
theorem z_clw0 : z_clws.map (fun i => lw_tbl[i]?) = z_cloneW.map some := rfl
set_option maxRecDepth 100000 in
theorem z_clwg : (z_cloneW.filter fun w => match w with | .castable _ _ => false | _ => true).all goodWord = true := by decide +kernel
set_option maxRecDepth 100000 in
theorem z_cp0 : (z_cps.map (fun q => q.2)).map (fun i => lw_tbl[i]?) = (z_cps.map (fun q => Cond.methodLink q.1.1 q.1.2 arraycopyName)).map some := rfl
set_option maxRecDepth 100000 in
theorem z_cpg : (z_cps.map (fun q => Cond.methodLink q.1.1 q.1.2 arraycopyName)).all goodWord = true := by decide +kernel
set_option maxRecDepth 100000 in
theorem z_cpw0 : [z_cpw.1, z_cpw.2.1, z_cpw.2.2].map (fun i => lw_tbl[i]?) = [(.native arraycopyName : Cond), .static arraycopyName, .initialized "java/lang/System"].map some := rfl
set_option maxRecDepth 100000 in
theorem z_cpwg : [(.native arraycopyName : Cond), .static arraycopyName, .initialized "java/lang/System"].all goodWord = true := by decide +kernel
set_option maxRecDepth 100000 in
theorem z_ao0 : (z_aos.map (fun q => q.2)).map (fun i => lw_tbl[i]?) = (z_aos.map (fun q => Cond.arrayOver q.1)).map some := rfl
def z_c4w (q : (String × Nat) × (Nat × Nat × Nat × Nat × Nat × Nat)) : List Cond := match z_lookup z_cls q.1 with
  | some (m, _) => match z_meths[m]?, z_meths[q.2.2.2.2.2.1]? with
    | some y, some x => [.methodLink q.1.1 q.1.2 x.1, .sameMethod "java/lang/AbstractStringBuilder" "java/lang/AbstractStringBuilder" x.1.name x.1.desc, .instanceMethod x.1, .selects "java/lang/StringBuilder" x.1 y.1, z_code x]
    | _, _ => []
  | none => []
set_option maxRecDepth 100000 in
theorem z_c40 : (z_c4s.flatMap (fun q => [q.2.1, q.2.2.1, q.2.2.2.1, q.2.2.2.2.1, q.2.2.2.2.2.2])).map (fun i => lw_tbl[i]?) = (z_c4s.flatMap z_c4w).map some := rfl
set_option maxRecDepth 100000 in
theorem z_c4g : (z_c4s.flatMap z_c4w).all goodWord = true := by decide +kernel
def z_c4ok (q : (String × Nat) × (Nat × Nat × Nat × Nat)) : Bool := match z_lookup z_c4s q.1, z_meths[q.2.1]? with
  | some v, some y => match z_meths[v.2.2.2.2.1]? with
    | some x => decide (x.1 = ⟨"java/lang/AbstractStringBuilder", y.1.name, y.1.desc⟩) && decide (z_lookup z_cls q.1 = some q.2) && x.2.2.2.2.isEmpty && y.2.2.2.2.isEmpty
    | none => false
  | _, _ => false
set_option maxRecDepth 100000 in
theorem z_c4s_ok : (z_cls.filter fun q => decide (q.2.2.1 = 4)).all z_c4ok = true := by decide +kernel
def z_c5w (q : (String × Nat) × (Nat × Nat × Nat)) : List Cond := match z_lookup z_cls q.1 with
  | some (m, _) => match z_meths[m]? with
    | some y => [.methodLink q.1.1 q.1.2 y.1, .sameMethod y.1.cls y.1.cls y.1.name y.1.desc, .superclass q.1.1 y.1.cls]
    | none => []
  | none => []
set_option maxRecDepth 100000 in
theorem z_c50 : (z_c5s.flatMap (fun q => [q.2.1, q.2.2.1, q.2.2.2])).map (fun i => lw_tbl[i]?) = (z_c5s.flatMap z_c5w).map some := rfl
set_option maxRecDepth 100000 in
theorem z_c5g : (z_c5s.flatMap z_c5w).all goodWord = true := by decide +kernel
def z_c5ok (q : (String × Nat) × (Nat × Nat × Nat × Nat)) : Bool := match z_lookup z_c5s q.1, z_meths[q.2.1]? with
  | some _, some y => decide (z_lookup z_cls q.1 = some q.2) && y.2.2.2.2.isEmpty && decide (q.1.1 = "java/lang/StringBuilder")
  | _, _ => false
set_option maxRecDepth 100000 in
theorem z_c5s_ok : (z_cls.filter fun q => decide (q.2.2.1 = 5)).all z_c5ok = true := by decide +kernel
/-- calls of the kinds 4 and 5 stand in the JDK's own classes, which no exception leaves -/
def z_jdkC (c : String) : Bool := decide (c = "java/lang/AbstractStringBuilder") || decide (c = "java/lang/StringBuilder") || decide (c = "java/lang/String")
set_option maxRecDepth 100000 in
theorem z_c45j : (z_cls.filter fun q => decide (4 ≤ q.2.2.1)).all (fun q => z_jdkC q.1.1) = true := by decide +kernel
def z_prw (q : (String × Nat) × (Nat × Nat)) : Cond := match q.2.1 with
  | 0 => .methodLink q.1.1 q.1.2 yJ0_length_8abf5
  | 1 => .methodLink q.1.1 q.1.2 yJ0_charAt_5068e
  | 2 => .methodLink q.1.1 q.1.2 Lib.Math.max.name
  | 3 => .methodLink q.1.1 q.1.2 Lib.Math.min.name
  | _ => .methodLink q.1.1 q.1.2 yJ0_checkIndex_df160
set_option maxRecDepth 100000 in
theorem z_pr0 : (z_prs.map (fun q => q.2.2)).map (fun i => lw_tbl[i]?) = (z_prs.map z_prw).map some := rfl
set_option maxRecDepth 100000 in
theorem z_prg : (z_prs.map z_prw).all goodWord = true := by decide +kernel
set_option maxRecDepth 100000 in
theorem z_mx0 : [z_mxw.1, z_mxw.2.1, z_mxw.2.2.1, z_mxw.2.2.2.1, z_mxw.2.2.2.2].map (fun i => lw_tbl[i]?) = [(.initialized "java/lang/Math" : Cond), .static Lib.Math.max.name, .code Lib.Math.max.name Lib.Math.max.code 2 (some .int), .static Lib.Math.min.name, .code Lib.Math.min.name Lib.Math.min.code 2 (some .int)].map some := rfl
set_option maxRecDepth 100000 in
theorem z_mxg : [(.initialized "java/lang/Math" : Cond), .static Lib.Math.max.name, .code Lib.Math.max.name Lib.Math.max.code 2 (some .int), .static Lib.Math.min.name, .code Lib.Math.min.name Lib.Math.min.code 2 (some .int)].all goodWord = true := by decide +kernel
def z_exw (q : (String × Nat) × (String × Nat × Nat × Nat)) : List Cond := [.classLink q.1.1 q.1.2 q.2.1, .initialized q.2.1]
set_option maxRecDepth 100000 in
theorem z_ex0 : (z_exs.flatMap (fun q => [q.2.2.2.1, q.2.2.2.2])).map (fun i => lw_tbl[i]?) = (z_exs.flatMap z_exw).map some := rfl
set_option maxRecDepth 100000 in
theorem z_exg : (z_exs.flatMap z_exw).all goodWord = true := by decide +kernel
def z_hcw (q : (String × Nat) × (String × Nat × Nat)) : List Cond := [.classLink q.1.1 q.1.2 q.2.1, .castable q.2.1 q.2.1]
set_option maxRecDepth 100000 in
theorem z_hc0 : (z_hcs.flatMap (fun q => [q.2.2.1, q.2.2.2])).map (fun i => lw_tbl[i]?) = (z_hcs.flatMap z_hcw).map some := rfl
