/-! the JDK's own String.length and String.charAt, over the three literals -/
def zs_F : Nat → Prop := fun _ => False
def zs_Q (v : Option Value) : Array Value → State → Outcome → State → Prop := fun _ st o t => o = .returned v ∧ t.heap = st.heap
def zs_r (k : Nat) : Room := { frames := k, cells := 0, slots := 0, locals := 40 * k }
abbrev zs_ws (y : MethodName) (cc : ByteArray) (maxL : Nat) (ret : Option FieldType) : List Cond := Cond.code y cc maxL ret :: z_tbl
def zs_wl : List Cond := [(.initialized RJ0 : Cond),
  .initialized RJ1,
  .initialized RJ3,
  .instanceMethod yJ0_length_8abf5,
  .selects RJ0 yJ0_length_8abf5 yJ0_length_8abf5,
  .code yJ0_length_8abf5 cJ0_length_8abf5 1 (some .int),
  .methodLink RJ0 335 yJ0_coder_7d493,
  .instanceMethod yJ0_coder_7d493,
  .selects RJ0 yJ0_coder_7d493 yJ0_coder_7d493,
  .code yJ0_coder_7d493 cJ0_coder_7d493 1 (some .byte),
  .fieldLink RJ0 38 "java/lang/String" "COMPACT_STRINGS" "Z",
  .instanceMethod yJ0_charAt_5068e,
  .selects RJ0 yJ0_charAt_5068e yJ0_charAt_5068e,
  .code yJ0_charAt_5068e cJ0_charAt_5068e 2 (some .char),
  .methodLink RJ0 492 yJ0_isLatin1_aae02,
  .instanceMethod yJ0_isLatin1_aae02,
  .selects RJ0 yJ0_isLatin1_aae02 yJ0_isLatin1_aae02,
  .code yJ0_isLatin1_aae02 cJ0_isLatin1_aae02 1 (some .boolean),
  .methodLink RJ0 495 yJ1_charAt_3b067,
  .static yJ1_charAt_3b067,
  .code yJ1_charAt_3b067 cJ1_charAt_3b067 2 (some .char),
  .methodLink RJ1 9 yJ0_checkIndex_df160,
  .static yJ0_checkIndex_df160,
  .code yJ0_checkIndex_df160 cJ0_checkIndex_df160 2 none,
  .fieldLink RJ0 1053 "jdk/internal/util/Preconditions" "SIOOBE_FORMATTER" "Ljava/util/function/BiFunction;",
  .methodLink RJ0 1059 yJ3_checkIndex_8e157,
  .static yJ3_checkIndex_8e157,
  .code yJ3_checkIndex_8e157 cJ3_checkIndex_8e157 3 (some .int),
  .fieldLink RJ0 9 "java/lang/String" "value" "[B",
  .fieldLink RJ0 15 "java/lang/String" "coder" "B"]
set_option maxRecDepth 100000 in
theorem zs_w0 : [45, 53, 52, 506, 507, 508, 509, 510, 511, 512, 513, 666, 667, 668, 669, 670, 671, 672, 673, 674, 675, 676, 590, 591, 491, 592, 593, 594, 650, 651].map (fun i => lw_tbl[i]?) = zs_wl.map some := rfl
set_option maxRecDepth 100000 in
theorem zs_wg : zs_wl.all goodWord = true := by decide +kernel
theorem zs_at (i : Nat) {w : Cond} (h : zs_wl[i]? = some w) : w ∈ z_tbl := z_placesG zs_w0 zs_wg w (List.mem_of_getElem? h)
theorem zsd_ck3_0 : decode cJ3_checkIndex_8e157 0 = .ok (.iload_n 0, 1) := by decide +kernel
theorem zsd_ck3_1 : decode cJ3_checkIndex_8e157 1 = .ok (.ifCond .lt 8, 3) := by decide +kernel
theorem zsd_ck3_4 : decode cJ3_checkIndex_8e157 4 = .ok (.iload_n 0, 1) := by decide +kernel
theorem zsd_ck3_5 : decode cJ3_checkIndex_8e157 5 = .ok (.iload_n 1, 1) := by decide +kernel
theorem zsd_ck3_6 : decode cJ3_checkIndex_8e157 6 = .ok (.if_icmp .lt 10, 3) := by decide +kernel
theorem zsd_ck3_16 : decode cJ3_checkIndex_8e157 16 = .ok (.iload_n 0, 1) := by decide +kernel
theorem zsd_ck3_17 : decode cJ3_checkIndex_8e157 17 = .ok (.ireturn, 1) := by decide +kernel
theorem zsd_ck0_0 : decode cJ0_checkIndex_df160 0 = .ok (.iload_n 0, 1) := by decide +kernel
theorem zsd_ck0_1 : decode cJ0_checkIndex_df160 1 = .ok (.iload_n 1, 1) := by decide +kernel
theorem zsd_ck0_2 : decode cJ0_checkIndex_df160 2 = .ok (.getstatic 1053, 3) := by decide +kernel
theorem zsd_ck0_5 : decode cJ0_checkIndex_df160 5 = .ok (.invokestatic 1059, 3) := by decide +kernel
theorem zsd_ck0_8 : decode cJ0_checkIndex_df160 8 = .ok (.pop, 1) := by decide +kernel
theorem zsd_ck0_9 : decode cJ0_checkIndex_df160 9 = .ok (.return_, 1) := by decide +kernel
theorem zsd_sl1_0 : decode cJ1_charAt_3b067 0 = .ok (.iload_n 1, 1) := by decide +kernel
theorem zsd_sl1_1 : decode cJ1_charAt_3b067 1 = .ok (.aload_n 0, 1) := by decide +kernel
theorem zsd_sl1_2 : decode cJ1_charAt_3b067 2 = .ok (.arraylength, 1) := by decide +kernel
theorem zsd_sl1_3 : decode cJ1_charAt_3b067 3 = .ok (.invokestatic 9, 3) := by decide +kernel
theorem zsd_sl1_6 : decode cJ1_charAt_3b067 6 = .ok (.aload_n 0, 1) := by decide +kernel
theorem zsd_sl1_7 : decode cJ1_charAt_3b067 7 = .ok (.iload_n 1, 1) := by decide +kernel
theorem zsd_sl1_8 : decode cJ1_charAt_3b067 8 = .ok (.baload, 1) := by decide +kernel
theorem zsd_sl1_9 : decode cJ1_charAt_3b067 9 = .ok (.sipush 255, 3) := by decide +kernel
theorem zsd_sl1_12 : decode cJ1_charAt_3b067 12 = .ok (.iand, 1) := by decide +kernel
theorem zsd_sl1_13 : decode cJ1_charAt_3b067 13 = .ok (.i2c, 1) := by decide +kernel
theorem zsd_sl1_14 : decode cJ1_charAt_3b067 14 = .ok (.ireturn, 1) := by decide +kernel
theorem zsd_isl_0 : decode cJ0_isLatin1_aae02 0 = .ok (.getstatic 38, 3) := by decide +kernel
theorem zsd_isl_3 : decode cJ0_isLatin1_aae02 3 = .ok (.ifCond .eq 14, 3) := by decide +kernel
theorem zsd_isl_6 : decode cJ0_isLatin1_aae02 6 = .ok (.aload_n 0, 1) := by decide +kernel
theorem zsd_isl_7 : decode cJ0_isLatin1_aae02 7 = .ok (.getfield 15, 3) := by decide +kernel
theorem zsd_isl_10 : decode cJ0_isLatin1_aae02 10 = .ok (.ifCond .ne 7, 3) := by decide +kernel
theorem zsd_isl_13 : decode cJ0_isLatin1_aae02 13 = .ok (.iconst 1, 1) := by decide +kernel
theorem zsd_isl_14 : decode cJ0_isLatin1_aae02 14 = .ok (.goto 4, 3) := by decide +kernel
theorem zsd_isl_18 : decode cJ0_isLatin1_aae02 18 = .ok (.ireturn, 1) := by decide +kernel
theorem zsd_chr_0 : decode cJ0_charAt_5068e 0 = .ok (.aload_n 0, 1) := by decide +kernel
theorem zsd_chr_1 : decode cJ0_charAt_5068e 1 = .ok (.invokevirtual 492, 3) := by decide +kernel
theorem zsd_chr_4 : decode cJ0_charAt_5068e 4 = .ok (.ifCond .eq 12, 3) := by decide +kernel
theorem zsd_chr_7 : decode cJ0_charAt_5068e 7 = .ok (.aload_n 0, 1) := by decide +kernel
theorem zsd_chr_8 : decode cJ0_charAt_5068e 8 = .ok (.getfield 9, 3) := by decide +kernel
theorem zsd_chr_11 : decode cJ0_charAt_5068e 11 = .ok (.iload_n 1, 1) := by decide +kernel
theorem zsd_chr_12 : decode cJ0_charAt_5068e 12 = .ok (.invokestatic 495, 3) := by decide +kernel
theorem zsd_chr_15 : decode cJ0_charAt_5068e 15 = .ok (.ireturn, 1) := by decide +kernel
theorem zsd_cod_0 : decode cJ0_coder_7d493 0 = .ok (.getstatic 38, 3) := by decide +kernel
theorem zsd_cod_3 : decode cJ0_coder_7d493 3 = .ok (.ifCond .eq 10, 3) := by decide +kernel
theorem zsd_cod_6 : decode cJ0_coder_7d493 6 = .ok (.aload_n 0, 1) := by decide +kernel
theorem zsd_cod_7 : decode cJ0_coder_7d493 7 = .ok (.getfield 15, 3) := by decide +kernel
theorem zsd_cod_10 : decode cJ0_coder_7d493 10 = .ok (.goto 4, 3) := by decide +kernel
theorem zsd_cod_14 : decode cJ0_coder_7d493 14 = .ok (.ireturn, 1) := by decide +kernel
theorem zsd_len_0 : decode cJ0_length_8abf5 0 = .ok (.aload_n 0, 1) := by decide +kernel
theorem zsd_len_1 : decode cJ0_length_8abf5 1 = .ok (.getfield 9, 3) := by decide +kernel
theorem zsd_len_4 : decode cJ0_length_8abf5 4 = .ok (.arraylength, 1) := by decide +kernel
theorem zsd_len_5 : decode cJ0_length_8abf5 5 = .ok (.aload_n 0, 1) := by decide +kernel
theorem zsd_len_6 : decode cJ0_length_8abf5 6 = .ok (.invokevirtual 335, 3) := by decide +kernel
theorem zsd_len_9 : decode cJ0_length_8abf5 9 = .ok (.ishr, 1) := by decide +kernel
theorem zsd_len_10 : decode cJ0_length_8abf5 10 = .ok (.ireturn, 1) := by decide +kernel
/-- what is known of the literals: at a heap -/
def zs_B (ra adV : Nat → Nat) (A : Nat → Prop) (U : State) (H : Heap) : Prop := vk_S 6 [9, 3, 5, 10, 6, 4] [z_lit 0, z_lit 1, z_lit 2, z_lit 3, z_lit 4, z_lit 5] ra adV A U H ∧ va_Z "java/lang/String" "COMPACT_STRINGS" "Z" (.int 1) A U H ∧ vx_Zq "jdk/internal/util/Preconditions" "SIOOBE_FORMATTER" "Ljava/util/function/BiFunction;" A U H
theorem zs_B.at {ra adV : Nat → Nat} {A : Nat → Prop} {s U : State} {H : Heap} (h : zs_B ra adV A s H) (hU : U.heap = H) (hW : s.WarmedH U.vm) : zs_B ra adV A U U.heap := by
  rw [hU]
  exact ⟨h.1.moved hW.alike, h.2.1.moved hW.alike, h.2.2.moved hW.alike⟩
theorem zs_blind {ra adV : Nat → Nat} {A : Nat → Prop} {as : List Value} : FrameBlind (va_Pc as (fun U => zs_B ra adV A U U.heap)) := fun a U gg mk q => ⟨q.1, zs_B.at (U := U.calling gg mk a) q.2 rfl (State.WarmedH.refl U)⟩
theorem zs_blindT {as : List Value} : FrameBlind (va_Pc as (fun _ => True)) := fun _ _ _ _ q => ⟨q.1, trivial⟩
theorem zs_T {ra adV : Nat → Nat} {A : Nat → Prop} {s : State} {H : Heap} (h : zs_B ra adV A s H) : ∀ k : Nat, k < 6 → va_T .byte (adV k) (z_lit k).length (fun j => .int ((z_lit k).getD j 0)) A s H := by
  intro k hk
  have h1 := (h.1.1 k hk).2.2.2
  rcases (show k = 0 ∨ k = 1 ∨ k = 2 ∨ k = 3 ∨ k = 4 ∨ k = 5 by omega) with rfl | rfl | rfl | rfl | rfl | rfl <;> exact h1
theorem zs_len9 : ∀ k : Nat, (z_lit k).length ≤ 10 := by
  intro k
  unfold z_lit
  repeat' (first | decide | split)
theorem zs_chars : ∀ k, k < 6 → ∀ j, j < 10 → (z_lit k).getD j 0 &&& 255 = (z_lit k).getD j 0 := by decide +kernel
section ZSS
variable {p : Program} {l : Launch} {e : Env} {R : Room} {s : State} {m : MethodId} {args : Array Value} {below : List Frame} {meth : Method} {c : Code} {H : Heap} {locs : List Loc} {cells slots : Nat} {Q : State → Prop}
variable {cc bytes : ByteArray} {pc maxL k n idx : Nat} {ls : Array Slot} {rest As st0 : List Value} {own : String} {y : MethodName} {ret : Option FieldType} {v : Option Value} {b : Nat} {B : State → Prop}
theorem zs_entry (vs : List Value) (h : (lg_sl vs).length ≤ n) (kk : ∀ ls : Array Slot, lv_has ls n (lv_args 0 vs) → W p l e R s m args below meth c H locs cells slots Q (F0 m 0 ls [])) : W p l e R s m args below meth c H locs cells slots Q (entryFrame m vs.toArray n) := by
  rw [lg_entry_eq]
  exact kk _ (lv_entry vs h)
theorem zs_go {aa : Array Value} (hrun : va_Run p l e R s m args below meth c H locs cells slots 0 0 (F0 m pc ls st0) rest (zs_Q v aa) zs_F) (kk : W p l e R s m args below meth c H locs cells slots Q (F0 m (pc + 3) ls (v.toList ++ rest))) : W p l e R s m args below meth c H locs cells slots Q (F0 m pc ls st0) := by
  intro T hT X
  obtain ⟨v', st₀, t, T', L, h0, X', hL, e1, e2, ⟨hv, hh⟩, st⟩ := hrun T hT X
  have hL0 : L = [] := List.eq_nil_iff_forall_not_mem.mpr fun q hq => hL q hq
  subst hL0
  cases hv
  rw [List.append_nil] at X'
  obtain ⟨t2, a1, b1⟩ := kk T' (by rw [e1, hh, h0]) X'
  exact ⟨t2, st t2 a1, b1⟩
theorem zs_callV (S : CallFix p m c cc ls.size s args z_tbl own) (hM : Met l y (zs_ws y bytes maxL ret) (zs_r k) (va_Pc (.ref b :: As) B) (zs_Q v) 0 0 zs_F)
    (w1 : Cond.methodLink own idx y ∈ z_tbl) (w2 : Cond.instanceMethod y ∈ z_tbl) (w3 : Cond.selects y.cls y y ∈ z_tbl) (w4 : Cond.initialized y.cls ∈ z_tbl) (w5 : Cond.code y bytes maxL ret ∈ z_tbl)
    (hd : y.cls ≠ "java/lang/invoke/MethodHandle" ∧ y.cls ≠ "java/lang/invoke/VarHandle" ∧ (parseMethodDescriptor y.desc).map (fun d => d.parameters.length) = some n) (hR : k + 1 ≤ R.frames ∧ 8 + (maxL + 11) + 40 * k ≤ R.locals)
    (hbl : FrameBlind (va_Pc (.ref b :: As) B)) (hrecv : ∃ cellB : Cell, H[b]? = some cellB ∧ cellB.vm.isStatics = false ∧ s.vm.findClass y.cls = some cellB.cls) (hpre : ∀ U : State, U.heap = H → s.WarmedH U.vm → B U) (hn : As.length = n) (hsum : (rest.map fun v => v.category).sum ≤ 8) (hc : cells ≤ R.cells) (hs : slots ≤ R.slots) (hdg : decode cc pc = .ok (.invokevirtual idx, 3))
    (kk : W p l e R s m args below meth c H locs cells slots Q (F0 m (pc + 3) ls (v.toList ++ rest))) : W p l e R s m args below meth c H locs cells slots Q (F0 m pc ls (As.reverse ++ .ref b :: rest)) :=
  zs_go (va_runV (As := As) S hM (cwV n S.2.2.2.2 (z_goodIn fun w hw => by
      simp only [wsV, List.mem_append, List.mem_cons, List.not_mem_nil, or_false] at hw
      rcases hw with (rfl | rfl | rfl | rfl) | rfl | hw
      · exact w1
      · exact w2
      · exact w3
      · exact w4
      · exact w5
      · exact hw) rfl rfl rfl ⟨rfl, hd⟩ hR) ⟨hbl, hrecv, fun U hU hW => ⟨rfl, hpre U hU hW⟩⟩ rfl hn rfl rfl (lv_room hsum) hdg ⟨hc, hs⟩) kk
theorem zs_callS (S : CallFix p m c cc ls.size s args z_tbl own) (hM : Met l y (zs_ws y bytes maxL ret) (zs_r k) (va_Pc As B) (zs_Q v) 0 0 zs_F)
    (w1 : Cond.methodLink own idx y ∈ z_tbl) (w2 : Cond.static y ∈ z_tbl) (w4 : Cond.initialized y.cls ∈ z_tbl) (w5 : Cond.code y bytes maxL ret ∈ z_tbl)
    (hd : y.cls ≠ "java/lang/invoke/MethodHandle" ∧ y.cls ≠ "java/lang/invoke/VarHandle" ∧ (parseMethodDescriptor y.desc).map (fun d => d.parameters.length) = some n) (hR : k + 1 ≤ R.frames ∧ 8 + (maxL + 11) + 40 * k ≤ R.locals)
    (hbl : FrameBlind (va_Pc As B)) (hpre : ∀ U : State, U.heap = H → s.WarmedH U.vm → B U) (hn : As.length = n) (hsum : (rest.map fun v => v.category).sum ≤ 8) (hc : cells ≤ R.cells) (hs : slots ≤ R.slots) (hdg : decode cc pc = .ok (.invokestatic idx, 3))
    (kk : W p l e R s m args below meth c H locs cells slots Q (F0 m (pc + 3) ls (v.toList ++ rest))) : W p l e R s m args below meth c H locs cells slots Q (F0 m pc ls (As.reverse ++ rest)) :=
  zs_go (va_runS (As := As) S hM (va_cwS n S.2.2.2.2 (z_goodIn fun w hw => by
      simp only [va_wsS, List.mem_append, List.mem_cons, List.not_mem_nil, or_false] at hw
      rcases hw with (rfl | rfl | rfl) | rfl | hw
      · exact w1
      · exact w2
      · exact w4
      · exact w5
      · exact hw) rfl rfl rfl hd hR) ⟨hbl, fun U hU hW => ⟨rfl, hpre U hU hW⟩⟩ rfl hn rfl rfl (lv_room hsum) hdg ⟨hc, hs⟩) kk
end ZSS
section ZSM
variable {ra adV : Nat → Nat} {A : Nat → Prop}
set_option maxHeartbeats 1000000 in
theorem zs_ck3 (l : Launch) {i n : Int32} {f : Value} (hf : f = .null ∨ ∃ t, f = .ref t) (h0 : ¬ i < 0) (h1 : i < n) : Met l yJ3_checkIndex_8e157 (zs_ws yJ3_checkIndex_8e157 cJ3_checkIndex_8e157 3 (some .int)) (zs_r 0) (va_Pc [.int i, .int n, f] (fun _ => True)) (zs_Q (some (.int i))) 0 0 zs_F := by
  have key : ∀ g : Value, g = f → Met l yJ3_checkIndex_8e157 (zs_ws yJ3_checkIndex_8e157 cJ3_checkIndex_8e157 3 (some .int)) (zs_r 0) (va_Pc [.int i, .int n, g] (fun _ => True)) (zs_Q (some (.int i))) 0 0 zs_F := by
    rcases hf with rfl | ⟨t, rfl⟩
    all_goals
      rintro g rfl
      refine Met.ofW (cc := cJ3_checkIndex_8e157) (maxL := 3) (ret := some .int) (by decide) rfl ?_
      intro p e s m args below meth c s₁ B hml hv
      obtain ⟨rfl, -⟩ := hv
      have hx := B.exec
      have hb := B.bytes
      have hr := B.returns
      have hlocks := B.notSynchronized
      refine zs_entry [.int i, .int n, _] (Nat.le_of_ble_eq_true rfl) fun ls hl => ?_
      have hl : lv_has ls 3 [(0, .int i), (1, .int n), (2, _)] := hl
      refine lv_iload_n hx hb zsd_ck3_0 rfl (lv_at hl 0 rfl) ?_
      refine lv_if_lt (tgt := 9) hx hb zsd_ck3_1 (by decide) (fun z => absurd z h0) (fun _ => ?_)
      refine lv_iload_n hx hb zsd_ck3_4 rfl (lv_at hl 0 rfl) ?_
      refine lv_iload_n hx hb zsd_ck3_5 rfl (lv_at hl 1 rfl) ?_
      refine lv_icmp_lt (tgt := 16) hx hb zsd_ck3_6 (by decide) (fun _ => ?_) (fun z => absurd h1 z)
      refine lv_iload_n hx hb zsd_ck3_16 rfl (lv_at hl 0 rfl) ?_
      exact W.iret (v := i) hx hb hr (fun t ht hW => ⟨rfl, ht⟩) (fun q hq => nomatch hq) zsd_ck3_17
  exact key f rfl
set_option maxHeartbeats 1000000 in
theorem zs_ck0 (l : Launch) {i n : Int32} (h0 : ¬ i < 0) (h1 : i < n) : Met l yJ0_checkIndex_df160 (zs_ws yJ0_checkIndex_df160 cJ0_checkIndex_df160 2 none) (zs_r 1) (va_Pc [.int i, .int n] (fun U => zs_B ra adV A U U.heap)) (zs_Q none) 0 0 zs_F := by
  refine Met.ofW (cc := cJ0_checkIndex_df160) (maxL := 2) (ret := none) (by decide) rfl ?_
  intro p e s m args below meth c s₁ B hml hv
  obtain ⟨rfl, hB⟩ := hv
  have hx := B.exec
  have hb := B.bytes
  have hr := B.returns
  have hts := atoms_spec (ws := zs_ws yJ0_checkIndex_df160 cJ0_checkIndex_df160 2 (none)) B.pre
  have ht9 : ∀ w ∈ z_tbl, w.before _ s = true := fun w hw => hts w (List.mem_cons_of_mem _ hw)
  have hown : s.vm.findClass RJ0 = some m.cls := findClass_of_methodNamed B.named
  have hlocks := B.notSynchronized
  refine zs_entry [.int i, .int n] (Nat.le_of_ble_eq_true rfl) fun ls hl => ?_
  have hl : lv_has ls 2 [(0, .int i), (1, .int n)] := hl
  refine lv_iload_n hx hb zsd_ck0_0 rfl (lv_at hl 0 rfl) ?_
  refine lv_iload_n hx hb zsd_ck0_1 rfl (lv_at hl 1 rfl) ?_
  have hZ : ∃ f : Value, (f = .null ∨ ∃ t, f = .ref t) ∧ va_Z "jdk/internal/util/Preconditions" "SIOOBE_FORMATTER" "Ljava/util/function/BiFunction;" f A s s.heap := by
    rcases hB.2.2.1 with h | ⟨t, h⟩
    · exact ⟨_, Or.inl rfl, h⟩
    · exact ⟨_, Or.inr ⟨t, rfl⟩, h⟩
  obtain ⟨f, hf, hZ⟩ := hZ
  refine va_gets hx hb hZ va_S.rf hown (ht9 _ (zs_at 24 rfl)) (fun _ h => h) zsd_ck0_2 ?_
  refine zs_callS (As := [.int i, .int n, f]) (rest := []) (n := 3) (k := 0) ⟨hx, hb, hml.trans hl.1.symm, hown, ht9⟩ (zs_ck3 l hf h0 h1) (zs_at 25 rfl) (zs_at 26 rfl) (zs_at 2 rfl) (zs_at 27 rfl) ⟨by decide, by decide, by decide +kernel⟩ ⟨Nat.le_of_ble_eq_true rfl, Nat.le_of_ble_eq_true rfl⟩ zs_blindT (fun _ _ _ => trivial) rfl (Nat.zero_le _) (Nat.zero_le _) (Nat.zero_le _) zsd_ck0_5 ?_
  refine lv_pop (va := .int i) (rest := []) hx hb zsd_ck0_8 rfl ?_
  exact W.vret hx hb hr (fun t ht hW => ⟨rfl, ht⟩) (fun q hq => nomatch hq) zsd_ck0_9
set_option maxHeartbeats 1000000 in
theorem zs_sl1 (l : Launch) {k j : Nat} (hk : k < 6) (hj : j < (z_lit k).length) : Met l yJ1_charAt_3b067 (zs_ws yJ1_charAt_3b067 cJ1_charAt_3b067 2 (some .char)) (zs_r 2) (va_Pc [.ref (adV k), .int (nI j)] (fun U => zs_B ra adV A U U.heap)) (zs_Q (some (.int ((z_lit k).getD j 0)))) 0 0 zs_F := by
  have h9 := zs_len9 k
  refine Met.ofW (cc := cJ1_charAt_3b067) (maxL := 2) (ret := some .char) (by decide) rfl ?_
  intro p e s m args below meth c s₁ B hml hv
  obtain ⟨rfl, hB⟩ := hv
  have hx := B.exec
  have hb := B.bytes
  have hr := B.returns
  have hts := atoms_spec (ws := zs_ws yJ1_charAt_3b067 cJ1_charAt_3b067 2 (some .char)) B.pre
  have ht9 : ∀ w ∈ z_tbl, w.before _ s = true := fun w hw => hts w (List.mem_cons_of_mem _ hw)
  have hown : s.vm.findClass RJ1 = some m.cls := findClass_of_methodNamed B.named
  have hlocks := B.notSynchronized
  refine zs_entry [.ref (adV k), .int (nI j)] (Nat.le_of_ble_eq_true rfl) fun ls hl => ?_
  have hl : lv_has ls 2 [(0, .ref (adV k)), (1, .int (nI j))] := hl
  have hT := zs_T hB k hk
  refine lv_iload_n hx hb zsd_sl1_0 rfl (lv_at hl 1 rfl) ?_
  refine lv_aload_n hx hb zsd_sl1_1 rfl (lv_at hl 0 rfl) ?_
  refine va_tlen (v := nI (z_lit k).length) hx hb hT va_S.rf rfl zsd_sl1_2 ?_
  refine zs_callS (As := [.int (nI j), .int (nI (z_lit k).length)]) (rest := []) (n := 2) (k := 1) ⟨hx, hb, hml.trans hl.1.symm, hown, ht9⟩ (zs_ck0 (ra := ra) (adV := adV) (A := A) l (nI_pos (by omega)) (nI_lt hj (by omega))) (zs_at 21 rfl) (zs_at 22 rfl) (zs_at 0 rfl) (zs_at 23 rfl) ⟨by decide, by decide, by decide +kernel⟩ ⟨Nat.le_of_ble_eq_true rfl, Nat.le_of_ble_eq_true rfl⟩ zs_blind (fun U hU hW => hB.at hU hW) rfl (Nat.zero_le _) (Nat.zero_le _) (Nat.zero_le _) zsd_sl1_3 ?_
  refine lv_aload_n (rest := []) hx hb zsd_sl1_6 rfl (lv_at hl 0 rfl) ?_
  refine lv_iload_n hx hb zsd_sl1_7 rfl (lv_at hl 1 rfl) ?_
  refine va_tb (v := .int ((z_lit k).getD j 0)) hx hb hT va_S.rf (vp_in_nI hj (by omega)) (by rw [nI_clamp (by omega)]) zsd_sl1_8 ?_
  refine lv_sipush (v := 255) hx hb zsd_sl1_9 (by decide) ?_
  refine lv_iand hx hb zsd_sl1_12 ?_
  refine lv_i2c hx hb zsd_sl1_13 (sc_c2 _) ?_
  exact W.zret (v := (z_lit k).getD j 0 &&& 255) hx hb hr (sc_nar _) (fun t ht hW => ⟨by rw [zs_chars k hk j (by omega)], ht⟩) (fun q hq => nomatch hq) zsd_sl1_14
set_option maxHeartbeats 1000000 in
theorem zs_isl (l : Launch) {k : Nat} (hk : k < 6) : Met l yJ0_isLatin1_aae02 (zs_ws yJ0_isLatin1_aae02 cJ0_isLatin1_aae02 1 (some .boolean)) (zs_r 0) (va_Pc [.ref (ra k)] (fun U => zs_B ra adV A U U.heap)) (zs_Q (some (.int 1))) 0 0 zs_F := by
  refine Met.ofW (cc := cJ0_isLatin1_aae02) (maxL := 1) (ret := some .boolean) (by decide) rfl ?_
  intro p e s m args below meth c s₁ B hml hv
  obtain ⟨rfl, hB⟩ := hv
  have hx := B.exec
  have hb := B.bytes
  have hr := B.returns
  have hts := atoms_spec (ws := zs_ws yJ0_isLatin1_aae02 cJ0_isLatin1_aae02 1 (some .boolean)) B.pre
  have ht9 : ∀ w ∈ z_tbl, w.before _ s = true := fun w hw => hts w (List.mem_cons_of_mem _ hw)
  have hown : s.vm.findClass RJ0 = some m.cls := findClass_of_methodNamed B.named
  have hlocks := B.notSynchronized
  refine zs_entry [.ref (ra k)] (Nat.le_of_ble_eq_true rfl) fun ls hl => ?_
  have hl : lv_has ls 1 [(0, .ref (ra k))] := hl
  refine va_gets hx hb hB.2.1 va_S.rf hown (ht9 _ (zs_at 10 rfl)) (fun _ h => h) zsd_isl_0 ?_
  refine lv_if_eq (tgt := 17) hx hb zsd_isl_3 (by decide) (fun z => absurd z (by decide)) (fun _ => ?_)
  refine lv_aload_n hx hb zsd_isl_6 rfl (lv_at hl 0 rfl) ?_
  refine vk_getf hx hb (hB.1.1 k hk).2.1 va_S.rf hown (ht9 _ (zs_at 29 rfl)) (fun _ h => h) zsd_isl_7 ?_
  refine lv_if_ne (tgt := 17) hx hb zsd_isl_10 (by decide) (fun z => absurd rfl z) (fun _ => ?_)
  refine lv_iconst (v := 1) hx hb zsd_isl_13 (by decide) ?_
  refine lv_goto (tgt := 18) hx hb zsd_isl_14 (by decide) ?_
  exact W.zret (v := 1) hx hb hr (by decide) (fun t ht hW => ⟨rfl, ht⟩) (fun q hq => nomatch hq) zsd_isl_18
theorem zs_recv {s : State} {H : Heap} (hB : zs_B ra adV A s H) {k : Nat} (hk : k < 6) : ∃ cellB : Cell, H[ra k]? = some cellB ∧ cellB.vm.isStatics = false ∧ s.vm.findClass "java/lang/String" = some cellB.cls := by
  obtain ⟨cell, h1, h2, h3, -⟩ := (hB.1.1 k hk).1
  exact ⟨cell, h1, h2, h3⟩
set_option maxHeartbeats 1000000 in
theorem zs_chr (l : Launch) {k j : Nat} (hk : k < 6) (hj : j < (z_lit k).length) : Met l yJ0_charAt_5068e (zs_ws yJ0_charAt_5068e cJ0_charAt_5068e 2 (some .char)) (zs_r 3) (va_Pc [.ref (ra k), .int (nI j)] (fun U => zs_B ra adV A U U.heap)) (zs_Q (some (.int ((z_lit k).getD j 0)))) 0 0 zs_F := by
  have h9 := zs_len9 k
  refine Met.ofW (cc := cJ0_charAt_5068e) (maxL := 2) (ret := some .char) (by decide) rfl ?_
  intro p e s m args below meth c s₁ B hml hv
  obtain ⟨rfl, hB⟩ := hv
  have hx := B.exec
  have hb := B.bytes
  have hr := B.returns
  have hts := atoms_spec (ws := zs_ws yJ0_charAt_5068e cJ0_charAt_5068e 2 (some .char)) B.pre
  have ht9 : ∀ w ∈ z_tbl, w.before _ s = true := fun w hw => hts w (List.mem_cons_of_mem _ hw)
  have hown : s.vm.findClass RJ0 = some m.cls := findClass_of_methodNamed B.named
  have hlocks := B.notSynchronized
  refine zs_entry [.ref (ra k), .int (nI j)] (Nat.le_of_ble_eq_true rfl) fun ls hl => ?_
  have hl : lv_has ls 2 [(0, .ref (ra k)), (1, .int (nI j))] := hl
  refine lv_aload_n hx hb zsd_chr_0 rfl (lv_at hl 0 rfl) ?_
  refine zs_callV (As := []) (b := ra k) (rest := []) (n := 0) (k := 0) ⟨hx, hb, hml.trans hl.1.symm, hown, ht9⟩ (zs_isl (ra := ra) (adV := adV) (A := A) l hk) (zs_at 14 rfl) (zs_at 15 rfl) (zs_at 16 rfl) (zs_at 0 rfl) (zs_at 17 rfl) ⟨by decide, by decide, by decide +kernel⟩ ⟨Nat.le_of_ble_eq_true rfl, Nat.le_of_ble_eq_true rfl⟩ zs_blind (zs_recv hB hk) (fun U hU hW => hB.at hU hW) rfl (Nat.zero_le _) (Nat.zero_le _) (Nat.zero_le _) zsd_chr_1 ?_
  refine lv_if_eq (x := 1) (rest := []) (tgt := 16) hx hb zsd_chr_4 (by decide) (fun z => absurd z (by decide)) (fun _ => ?_)
  refine lv_aload_n hx hb zsd_chr_7 rfl (lv_at hl 0 rfl) ?_
  refine vk_getf hx hb (hB.1.1 k hk).2.2.1 va_S.rf hown (ht9 _ (zs_at 28 rfl)) (fun _ h => h) zsd_chr_8 ?_
  refine lv_iload_n hx hb zsd_chr_11 rfl (lv_at hl 1 rfl) ?_
  refine zs_callS (As := [.ref (adV k), .int (nI j)]) (rest := []) (n := 2) (k := 2) ⟨hx, hb, hml.trans hl.1.symm, hown, ht9⟩ (zs_sl1 (ra := ra) (adV := adV) (A := A) l hk hj) (zs_at 18 rfl) (zs_at 19 rfl) (zs_at 1 rfl) (zs_at 20 rfl) ⟨by decide, by decide, by decide +kernel⟩ ⟨Nat.le_of_ble_eq_true rfl, Nat.le_of_ble_eq_true rfl⟩ zs_blind (fun U hU hW => hB.at hU hW) rfl (Nat.zero_le _) (Nat.zero_le _) (Nat.zero_le _) zsd_chr_12 ?_
  exact W.zret (v := (z_lit k).getD j 0) hx hb hr (by have := sc_nar ((z_lit k).getD j 0); rw [zs_chars k hk j (by omega)] at this; exact this) (fun t ht hW => ⟨rfl, ht⟩) (fun q hq => nomatch hq) zsd_chr_15
set_option maxHeartbeats 1000000 in
theorem zs_cod (l : Launch) {k : Nat} (hk : k < 6) : Met l yJ0_coder_7d493 (zs_ws yJ0_coder_7d493 cJ0_coder_7d493 1 (some .byte)) (zs_r 0) (va_Pc [.ref (ra k)] (fun U => zs_B ra adV A U U.heap)) (zs_Q (some (.int 0))) 0 0 zs_F := by
  refine Met.ofW (cc := cJ0_coder_7d493) (maxL := 1) (ret := some .byte) (by decide) rfl ?_
  intro p e s m args below meth c s₁ B hml hv
  obtain ⟨rfl, hB⟩ := hv
  have hx := B.exec
  have hb := B.bytes
  have hr := B.returns
  have hts := atoms_spec (ws := zs_ws yJ0_coder_7d493 cJ0_coder_7d493 1 (some .byte)) B.pre
  have ht9 : ∀ w ∈ z_tbl, w.before _ s = true := fun w hw => hts w (List.mem_cons_of_mem _ hw)
  have hown : s.vm.findClass RJ0 = some m.cls := findClass_of_methodNamed B.named
  have hlocks := B.notSynchronized
  refine zs_entry [.ref (ra k)] (Nat.le_of_ble_eq_true rfl) fun ls hl => ?_
  have hl : lv_has ls 1 [(0, .ref (ra k))] := hl
  refine va_gets hx hb hB.2.1 va_S.rf hown (ht9 _ (zs_at 10 rfl)) (fun _ h => h) zsd_cod_0 ?_
  refine lv_if_eq (tgt := 13) hx hb zsd_cod_3 (by decide) (fun z => absurd z (by decide)) (fun _ => ?_)
  refine lv_aload_n hx hb zsd_cod_6 rfl (lv_at hl 0 rfl) ?_
  refine vk_getf hx hb (hB.1.1 k hk).2.1 va_S.rf hown (ht9 _ (zs_at 29 rfl)) (fun _ h => h) zsd_cod_7 ?_
  refine lv_goto (tgt := 14) hx hb zsd_cod_10 (by decide) ?_
  exact W.zret (v := 0) hx hb hr (by decide) (fun t ht hW => ⟨rfl, ht⟩) (fun q hq => nomatch hq) zsd_cod_14
set_option maxHeartbeats 1000000 in
theorem zs_len (l : Launch) {k : Nat} (hk : k < 6) : Met l yJ0_length_8abf5 (zs_ws yJ0_length_8abf5 cJ0_length_8abf5 1 (some .int)) (zs_r 1) (va_Pc [.ref (ra k)] (fun U => zs_B ra adV A U U.heap)) (zs_Q (some (.int (nI (z_lit k).length)))) 0 0 zs_F := by
  have h9 := zs_len9 k
  refine Met.ofW (cc := cJ0_length_8abf5) (maxL := 1) (ret := some .int) (by decide) rfl ?_
  intro p e s m args below meth c s₁ B hml hv
  obtain ⟨rfl, hB⟩ := hv
  have hx := B.exec
  have hb := B.bytes
  have hr := B.returns
  have hts := atoms_spec (ws := zs_ws yJ0_length_8abf5 cJ0_length_8abf5 1 (some .int)) B.pre
  have ht9 : ∀ w ∈ z_tbl, w.before _ s = true := fun w hw => hts w (List.mem_cons_of_mem _ hw)
  have hown : s.vm.findClass RJ0 = some m.cls := findClass_of_methodNamed B.named
  have hlocks := B.notSynchronized
  refine zs_entry [.ref (ra k)] (Nat.le_of_ble_eq_true rfl) fun ls hl => ?_
  have hl : lv_has ls 1 [(0, .ref (ra k))] := hl
  refine lv_aload_n hx hb zsd_len_0 rfl (lv_at hl 0 rfl) ?_
  refine vk_getf hx hb (hB.1.1 k hk).2.2.1 va_S.rf hown (ht9 _ (zs_at 28 rfl)) (fun _ h => h) zsd_len_1 ?_
  refine va_tlen (v := nI (z_lit k).length) hx hb (zs_T hB k hk) va_S.rf rfl zsd_len_4 ?_
  refine lv_aload_n hx hb zsd_len_5 rfl (lv_at hl 0 rfl) ?_
  refine zs_callV (As := []) (b := ra k) (rest := [.int (nI (z_lit k).length)]) (n := 0) (k := 0) ⟨hx, hb, hml.trans hl.1.symm, hown, ht9⟩ (zs_cod (ra := ra) (adV := adV) (A := A) l hk) (zs_at 6 rfl) (zs_at 7 rfl) (zs_at 8 rfl) (zs_at 0 rfl) (zs_at 9 rfl) ⟨by decide, by decide, by decide +kernel⟩ ⟨Nat.le_of_ble_eq_true rfl, Nat.le_of_ble_eq_true rfl⟩ zs_blind (zs_recv hB hk) (fun U hU hW => hB.at hU hW) rfl (Nat.le_of_ble_eq_true rfl) (Nat.zero_le _) (Nat.zero_le _) zsd_len_6 ?_
  refine lv_ishr (x := nI (z_lit k).length) (y := 0) (rest := []) hx hb zsd_len_9 ?_
  rw [sc_shr0 (by omega)]
  exact W.iret (v := nI (z_lit k).length) hx hb hr (fun t ht hW => ⟨rfl, ht⟩) (fun q hq => nomatch hq) zsd_len_10
end ZSM
