/-! what the statement gives at the start -/
section
variable {args : Array Value} {s : State}
abbrev zg_N : List Cond := flatC (Jvm.Cond.and given_1 narrow_1)
def zg_tm (i : Nat) : Term := if i = 0 then .string "LatinRectangles$Parser" 55 else if i = 1 then .string "LatinRectangles$Parser" 81 else if i = 2 then .string "LatinRectangles$Parser" 83 else if i = 3 then .string "LatinRectanglesLaw" 41 else if i = 4 then .string "LatinRectanglesLaw" 73 else .string "LatinRectanglesLaw" 82
abbrev zg_len : List Nat := [9, 3, 5, 10, 6, 4]
abbrev zg_by : List (List Int32) := [z_lit 0, z_lit 1, z_lit 2, z_lit 3, z_lit 4, z_lit 5]
set_option maxRecDepth 100000 in
theorem zg_ex : ∀ i, i < 6 → Cond.exactly (zg_tm i) "java/lang/String" ∈ zg_N := by decide +kernel
set_option maxRecDepth 100000 in
theorem zg_co : ∀ i, i < 6 → Cond.eq (.field (zg_tm i) "java/lang/String" "coder" "B") (.int 0) ∈ zg_N := by decide +kernel
set_option maxRecDepth 100000 in
theorem zg_ar : ∀ i, i < 6 → Cond.arrayOf (.field (zg_tm i) "java/lang/String" "value" "[B") .byte ∈ zg_N := by decide +kernel
set_option maxRecDepth 100000 in
theorem zg_le : ∀ i, i < 6 → Cond.eq (.length (.field (zg_tm i) "java/lang/String" "value" "[B")) (.int (Int32.ofNat (zg_len.getD i 0))) ∈ zg_N := by decide +kernel
set_option maxRecDepth 100000 in
theorem zg_el : ∀ i, i < 6 → ∀ j, j < zg_len.getD i 0 → Cond.eq (.elem (.field (zg_tm i) "java/lang/String" "value" "[B") (.int (Int32.ofNat j))) (.int ((zg_by.getD i []).getD j 0)) ∈ zg_N := by decide +kernel
set_option maxRecDepth 100000 in
theorem zg_ne : ∀ i, i < 6 → ∀ j, j < 6 → i ≠ j → Cond.not (Cond.eq (zg_tm i) (zg_tm j)) ∈ zg_N ∨ Cond.not (Cond.eq (zg_tm j) (zg_tm i)) ∈ zg_N := by decide +kernel
set_option maxRecDepth 100000 in
theorem zg_nc : ∀ E ∈ z_exn, ∀ T ∈ z_exc, E ≠ T → Cond.not (.castable E T) ∈ zg_N := by decide +kernel
abbrev zg_do : Term := .static "java/lang/Integer" "DigitOnes" "[B"
set_option maxRecDepth 100000 in
theorem zg_d1 : Cond.arrayOf zg_do .byte ∈ zg_N := by decide +kernel
set_option maxRecDepth 100000 in
theorem zg_d2 : Cond.eq (.length zg_do) (.int (Int32.ofNat 100)) ∈ zg_N := by decide +kernel
set_option maxRecDepth 100000 in
theorem zg_d3 : ∀ j, j < 100 → Cond.eq (.elem zg_do (.int (Int32.ofNat j))) (.int (nI (48 + j % 10))) ∈ zg_N := by decide +kernel
def zg_sl : List Cond := [.isRef (.static Bundle.tN "UNASSIGNED_STACK" Bundle.steD), .isRef (.static Bundle.tN "SUPPRESSED_SENTINEL" Bundle.listD), .eq (.static "java/lang/String" "COMPACT_STRINGS" "Z") (.int 1), .isRef (.static "jdk/internal/util/Preconditions" "SIOOBE_FORMATTER" "Ljava/util/function/BiFunction;")]
set_option maxRecDepth 100000 in
theorem zg_s0 : ∀ w ∈ zg_sl, w ∈ zg_N := by decide +kernel
def zg_tl : List Cond := [.laysStatic Bundle.tN "UNASSIGNED_STACK" Bundle.steD, .laysStatic Bundle.tN "SUPPRESSED_SENTINEL" Bundle.listD, .laysStatic "java/lang/String" "COMPACT_STRINGS" "Z", .laysStatic "jdk/internal/util/Preconditions" "SIOOBE_FORMATTER" "Ljava/util/function/BiFunction;", .initialized Bundle.tN, .initialized "java/lang/String", .initialized "jdk/internal/util/Preconditions", .laysStatic "java/lang/Integer" "DigitOnes" "[B", .initialized "java/lang/Integer"]
set_option maxRecDepth 100000 in
theorem zg_t0 : ∀ w ∈ zg_tl, w ∈ lw_tbl := by decide +kernel
set_option maxRecDepth 100000 in
theorem zg_sx : ∀ q ∈ z_sxs, Cond.stringRef q.1.1 q.1.2 q.2 ∈ lw_tbl := by decide +kernel
def zg_rt : List (String × Nat × String) := [("LatinRectangles$Parser", 55, "rectangle"), ("LatinRectangles$Parser", 81, "ban"), ("LatinRectangles$Parser", 83, "given"), ("LatinRectanglesLaw", 41, "rectangle "), ("LatinRectanglesLaw", 73, "given "), ("LatinRectanglesLaw", 82, "ban ")]
set_option maxRecDepth 100000 in
theorem zg_r0 : ∀ q ∈ zg_rt, Cond.stringRef q.1 q.2.1 q.2.2 ∈ lw_tbl := by decide +kernel
theorem zg_R {own tx : String} {k : Nat} (h : (Cond.stringRef own k tx).before args s = true) : ∃ a, (Term.string own k).eval args s none [] s = some (.ref a) ∧ vk_R own k tx a s := by
  have hcur : ∃ cur, s.vm.findClass own = some cur := by
    have h1 := h
    simp only [Cond.before, Cond.holds, Cond.value] at h1
    cases hc : s.vm.findClass own with
    | none => simp [hc] at h1
    | some cur => exact ⟨cur, rfl⟩
  obtain ⟨cur, hcur⟩ := hcur
  obtain ⟨-, -, -, a, -, -, -, -, -, h2⟩ := Cond.stringRef_spec (args := args) (first := s) (o := none) (s := s) (idx := []) hcur h
  exact ⟨a, h2, vk_R.of h h2⟩
theorem zg_A (a : Nat) (h : a < s.heap.size) : ¬ z_A s.heap a := fun z => absurd h (Nat.not_lt.mpr z)
theorem zg_re {N : Nat} {len : List Nat} {byt : List (List Int32)} {adK ra adV : Nat → Nat} {A : Nat → Prop} {U : State} {H : Heap} (h : vk_S N len byt adK adV A U H) (he : ∀ i, i < N → ra i = adK i) : vk_S N len byt ra adV A U H :=
  ⟨fun i hi => by rw [he i hi]; exact h.1 i hi, fun i j hi hj e => h.2 i j hi hj (by rw [← he i hi, ← he j hj]; exact e)⟩
theorem zg_Z {C n d : String} {t : Nat} (hl : (Cond.laysStatic C n d).before args s = true) (hi : (Cond.initialized C).before args s = true) (hv : (Term.static C n d).eval args s none [] s = some (.ref t)) : va_Z C n d (.ref t) (z_A s.heap) s s.heap := va_Zof hl hi hv zg_A
set_option maxHeartbeats 1000000 in
theorem zg_EV {b L : Nat} {xs : Nat → Int32} (hts : ∀ w ∈ lw_tbl, w.before args s = true) (hgv : (Jvm.Cond.and given_1 narrow_1).before args s = true) (hX : va_X b L xs s s.heap) : ∃ (D : va_G) (cA : FieldType → ClassId) (ra adV : Nat → Nat), ra 99 = b ∧ z_EV D cA ra adV s.heap (L, xs) s := by
  have hs : ∀ w ∈ zg_N, w.before args s = true := flat_of_before _ hgv
  have ht : ∀ w ∈ zg_tl, w.before args s = true := fun w hw => hts w (zg_t0 w hw)
  have hu : ∀ w ∈ zg_sl, w.before args s = true := fun w hw => hs w (zg_s0 w hw)
  obtain ⟨cA, a1, a3⟩ := za_ar hts
  obtain ⟨D, hD⟩ := za_cl hts
  obtain ⟨adK, adV, hS, hev⟩ := vk_Sof (args := args) (s := s) (N := 6) (tm := zg_tm) (len := zg_len) (byt := zg_by) (A := z_A s.heap) (by decide) (fun i hi => hs _ (zg_ex i hi)) (fun i hi => hs _ (zg_co i hi)) (fun i hi => hs _ (zg_ar i hi)) (fun i hi => hs _ (zg_le i hi)) (fun i hi j hj => hs _ (zg_el i hi j hj))
    (fun i j hi hj hij => (zg_ne i hi j hj hij).elim (fun h => Or.inl (hs _ h)) (fun h => Or.inr (hs _ h))) zg_A
  obtain ⟨td, t1, t2⟩ := va_Tof (f := fun j => .int (nI (48 + j % 10))) (A := z_A s.heap) (N := 100) (by decide) (hs _ zg_d1) (va_eqt (hs _ zg_d2)) (fun j hj => va_eqt (hs _ (zg_d3 j hj))) zg_A
  obtain ⟨ra, hra⟩ : ∃ ra : Nat → Nat, ra = fun k => if k = 99 then b else if k = 97 then td else if k < 50 then adK k else adV (k - 50) := ⟨_, rfl⟩
  have r99 : ra 99 = b := by rw [hra]; rfl
  have r97 : ra 97 = td := by rw [hra]; rfl
  have rk : ∀ i, i < 6 → ra i = adK i := fun i hi => by
    rw [hra]
    dsimp only
    rw [if_neg (by omega), if_neg (by omega), if_pos (by omega)]
  have rv : ∀ i, i < 6 → ra (50 + i) = adV i := fun i hi => by
    rw [hra]
    dsimp only
    rw [if_neg (by omega), if_neg (by omega), if_neg (by omega), Nat.add_sub_cancel_left]
  have hP : ∀ i, i < 6 → ∀ (own tx : String) (k : Nat), zg_tm i = .string own k → (own, k, tx) ∈ zg_rt → vk_R own k tx (ra i) s := by
    intro i hi own tx k e hm
    rw [rk i hi]
    have h1 := hev i hi
    rw [e] at h1
    exact vk_R.of (hts _ (zg_r0 _ hm)) h1
  refine ⟨D, cA, ra, adV, r99, ⟨hD, fun k q hk => ?_⟩, vx_Zqof (ht _ (List.mem_of_getElem? (i := 0) rfl)) (ht _ (List.mem_of_getElem? (i := 4) rfl)) (hu _ (List.mem_of_getElem? (i := 0) rfl)) zg_A, vx_Zqof (ht _ (List.mem_of_getElem? (i := 1) rfl)) (ht _ (List.mem_of_getElem? (i := 4) rfl)) (hu _ (List.mem_of_getElem? (i := 1) rfl)) zg_A, fun q hq => ?_, fun q hq => ?_, fun w hw => ?_, fun E hE T hT ne => va_Nc.of (hs _ (zg_nc E hE T hT ne)), a3, ⟨by rw [r97]; exact zg_Z (ht _ (List.mem_of_getElem? (i := 7) rfl)) (ht _ (List.mem_of_getElem? (i := 8) rfl)) t1, by rw [r97]; exact t2⟩, by rw [r99]; exact hX, zg_re hS rk, va_Zof (ht _ (List.mem_of_getElem? (i := 2) rfl)) (ht _ (List.mem_of_getElem? (i := 5) rfl)) (va_eqt (hu _ (List.mem_of_getElem? (i := 2) rfl))) zg_A, vx_Zqof (ht _ (List.mem_of_getElem? (i := 3) rfl)) (ht _ (List.mem_of_getElem? (i := 6) rfl)) (hu _ (List.mem_of_getElem? (i := 3) rfl)) zg_A, rv⟩
  · obtain ⟨t, ht9, rfl⟩ := List.mem_map.mp (List.mem_of_getElem? hk)
    exact a1 t ht9
  · obtain ⟨a, -, h2⟩ := zg_R (hts _ (zg_sx q hq))
    exact ⟨a, h2⟩
  · unfold z_srs at hq
    simp only [List.mem_cons, List.not_mem_nil, or_false] at hq
    rcases hq with rfl | rfl | rfl | rfl | rfl | rfl
    · exact ⟨_, hP 3 (by omega) _ "rectangle " _ rfl (by simp [zg_rt])⟩
    · exact ⟨_, hP 4 (by omega) _ "given " _ rfl (by simp [zg_rt])⟩
    · exact ⟨_, hP 5 (by omega) _ "ban " _ rfl (by simp [zg_rt])⟩
    · exact ⟨_, hP 0 (by omega) _ "rectangle" _ rfl (by simp [zg_rt])⟩
    · exact ⟨_, hP 1 (by omega) _ "ban" _ rfl (by simp [zg_rt])⟩
    · exact ⟨_, hP 2 (by omega) _ "given" _ rfl (by simp [zg_rt])⟩
  · have h2 := (List.mem_filter.mp hw).2
    refine va_Nw.of ?_ (hts w (List.mem_filter.mp hw).1)
    cases w <;> first | rfl | (simp [z_isV] at h2; done)
end
