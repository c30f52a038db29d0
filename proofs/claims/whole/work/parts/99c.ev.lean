/-! what the statement gives at the start -/
section
variable {args : Array Value} {s : State}
abbrev zg_N : List Cond := flatC (Jvm.Cond.and given_1 narrow_1)
def zg_tm (i : Nat) : Term := if i = 0 then .string "LatinRectangles$Parser" 55 else if i = 1 then .string "LatinRectangles$Parser" 81 else .string "LatinRectangles$Parser" 83
def zg_tn (i : Nat) : Term := if i = 0 then .string "LatinRectanglesModel" 137 else if i = 1 then .string "LatinRectanglesModel" 158 else .string "LatinRectanglesModel" 160
def zg_len : List Nat := [9, 3, 5]
set_option maxRecDepth 100000 in
theorem zg_ex : ∀ i, i < 3 → Cond.exactly (zg_tm i) "java/lang/String" ∈ zg_N := by decide +kernel
set_option maxRecDepth 100000 in
theorem zg_co : ∀ i, i < 3 → Cond.eq (.field (zg_tm i) "java/lang/String" "coder" "B") (.int 0) ∈ zg_N := by decide +kernel
set_option maxRecDepth 100000 in
theorem zg_ar : ∀ i, i < 3 → Cond.arrayOf (.field (zg_tm i) "java/lang/String" "value" "[B") .byte ∈ zg_N := by decide +kernel
set_option maxRecDepth 100000 in
theorem zg_le : ∀ i, i < 3 → Cond.eq (.length (.field (zg_tm i) "java/lang/String" "value" "[B")) (.int (Int32.ofNat (zg_len.getD i 0))) ∈ zg_N := by decide +kernel
set_option maxRecDepth 100000 in
theorem zg_el : ∀ i, i < 3 → ∀ j, j < zg_len.getD i 0 → Cond.eq (.elem (.field (zg_tm i) "java/lang/String" "value" "[B") (.int (Int32.ofNat j))) (.int (([z_lit 0, z_lit 1, z_lit 2].getD i []).getD j 0)) ∈ zg_N := by decide +kernel
set_option maxRecDepth 100000 in
theorem zg_ne : ∀ i, i < 3 → ∀ j, j < 3 → i < j → Cond.not (Cond.eq (zg_tm i) (zg_tm j)) ∈ zg_N := by decide +kernel
set_option maxRecDepth 100000 in
theorem zg_eq : ∀ i, i < 3 → Cond.eq (zg_tm i) (zg_tn i) ∈ zg_N := by decide +kernel
set_option maxRecDepth 100000 in
theorem zg_nc : ∀ E ∈ z_exn, ∀ T ∈ z_exn, E ≠ T → Cond.not (.castable E T) ∈ zg_N := by decide +kernel
def zg_sl : List Cond := [.isRef (.static Bundle.tN "UNASSIGNED_STACK" Bundle.steD), .isRef (.static Bundle.tN "SUPPRESSED_SENTINEL" Bundle.listD), .eq (.static "java/lang/String" "COMPACT_STRINGS" "Z") (.int 1), .isRef (.static "jdk/internal/util/Preconditions" "SIOOBE_FORMATTER" "Ljava/util/function/BiFunction;")]
set_option maxRecDepth 100000 in
theorem zg_s0 : ∀ w ∈ zg_sl, w ∈ zg_N := by decide +kernel
def zg_tl : List Cond := [.laysStatic Bundle.tN "UNASSIGNED_STACK" Bundle.steD, .laysStatic Bundle.tN "SUPPRESSED_SENTINEL" Bundle.listD, .laysStatic "java/lang/String" "COMPACT_STRINGS" "Z", .laysStatic "jdk/internal/util/Preconditions" "SIOOBE_FORMATTER" "Ljava/util/function/BiFunction;", .initialized Bundle.tN, .initialized "java/lang/String", .initialized "jdk/internal/util/Preconditions"]
set_option maxRecDepth 100000 in
theorem zg_t0 : ∀ w ∈ zg_tl, w ∈ lw_tbl := by decide +kernel
set_option maxRecDepth 100000 in
theorem zg_sx : ∀ q ∈ z_sxs, ∃ i, i < lw_tbl.length ∧ lw_tbl[i]? = some (Cond.stringRef q.1.1 q.1.2 q.2) := by
  have h : ∀ q ∈ z_sxs, Cond.stringRef q.1.1 q.1.2 q.2 ∈ lw_tbl := by decide +kernel
  intro q hq
  obtain ⟨i, hi⟩ := List.getElem?_of_mem (h q hq)
  exact ⟨i, (List.getElem?_eq_some_iff.mp hi).1, hi⟩
def zg_rt : List (String × Nat × String) := [("LatinRectangles$Parser", 55, "rectangle"), ("LatinRectangles$Parser", 81, "ban"), ("LatinRectangles$Parser", 83, "given"), ("LatinRectanglesModel", 137, "rectangle"), ("LatinRectanglesModel", 158, "ban"), ("LatinRectanglesModel", 160, "given")]
set_option maxRecDepth 100000 in
theorem zg_r0 : ∀ q ∈ zg_rt, Cond.stringRef q.1 q.2.1 q.2.2 ∈ lw_tbl := by decide +kernel
theorem zg_R {own tx : String} {k : Nat} (h : (Cond.stringRef own k tx).before args s = true) : ∃ a, (Term.string own k).eval args s none [] s = some (.ref a) ∧ vk_R own k tx a s := by
  have hcur : ∃ cur, s.vm.findClass own = some cur := by
    have h1 := h
    simp only [Cond.before, Cond.holds, Cond.value] at h1
    cases hc : s.vm.findClass own with
    | none => simp [hc] at h1
    | some cur => exact ⟨cur, rfl⟩
  obtain ⟨cur, hcur⟩ := hcur
  obtain ⟨-, -, -, a, -, -, -, -, -, h2⟩ := Cond.stringRef_spec (args := args) (first := s) (o := none) (s := s) (idx := []) hcur h
  exact ⟨a, h2, vk_R.of h h2⟩
theorem zg_eqR {t u : Term} {a b : Nat} (h : (Cond.eq t u).before args s = true) (ht : t.eval args s none [] s = some (.ref a)) (hu : u.eval args s none [] s = some (.ref b)) : a = b := by
  simpa [Cond.before, Cond.holds, Cond.value, ht, hu] using h
theorem zg_A (a : Nat) (h : a < s.heap.size) : ¬ z_A s.heap a := fun z => absurd h (Nat.not_lt.mpr z)
theorem zg_re {N : Nat} {len : List Nat} {byt : List (List Int32)} {adK ra adV : Nat → Nat} {A : Nat → Prop} {U : State} {H : Heap} (h : vk_S N len byt adK adV A U H) (he : ∀ i, i < N → ra i = adK i) : vk_S N len byt ra adV A U H :=
  ⟨fun i hi => by rw [he i hi]; exact h.1 i hi, fun i j hi hj e => h.2 i j hi hj (by rw [← he i hi, ← he j hj]; exact e)⟩
set_option maxHeartbeats 1000000 in
theorem zg_EV {b L : Nat} {xs : Nat → Int32} (hts : ∀ w ∈ lw_tbl, w.before args s = true) (hgv : (Jvm.Cond.and given_1 narrow_1).before args s = true) (hX : va_X b L xs s s.heap) : ∃ (D : va_G) (cA : FieldType → ClassId) (ra adV : Nat → Nat), ra 99 = b ∧ z_EV D cA ra adV s.heap (L, xs) s := by
  have hs : ∀ w ∈ zg_N, w.before args s = true := flat_of_before _ hgv
  have ht : ∀ w ∈ zg_tl, w.before args s = true := fun w hw => hts w (zg_t0 w hw)
  have hu : ∀ w ∈ zg_sl, w.before args s = true := fun w hw => hs w (zg_s0 w hw)
  obtain ⟨cA, a1, a2, a3⟩ := za_ar hts
  obtain ⟨D, hD⟩ := za_cl hts
  obtain ⟨adK, adV, hS, hev⟩ := vk_Sof (args := args) (s := s) (N := 3) (tm := zg_tm) (len := zg_len) (byt := [z_lit 0, z_lit 1, z_lit 2]) (A := z_A s.heap) (by decide) (fun i hi => hs _ (zg_ex i hi)) (fun i hi => hs _ (zg_co i hi)) (fun i hi => hs _ (zg_ar i hi)) (fun i hi => hs _ (zg_le i hi)) (fun i hi j hj => hs _ (zg_el i hi j hj))
    (fun i j hi hj hij => (Nat.lt_or_gt_of_ne hij).elim (fun h => Or.inl (hs _ (zg_ne i hi j hj h))) (fun h => Or.inr (hs _ (zg_ne j hj i hi h)))) zg_A
  obtain ⟨ra, hra⟩ : ∃ ra : Nat → Nat, ra = fun k => if k = 99 then b else adK k := ⟨_, rfl⟩
  have r99 : ra 99 = b := by rw [hra]; rfl
  have rk : ∀ i, i < 3 → ra i = adK i := fun i hi => by rw [hra]; exact if_neg (by omega)
  have hP : ∀ i, i < 3 → ∀ (own tx : String) (k : Nat), zg_tm i = .string own k → (own, k, tx) ∈ zg_rt → vk_R own k tx (ra i) s := by
    intro i hi own tx k e hm
    rw [rk i hi]
    have h1 := hev i hi
    rw [e] at h1
    exact vk_R.of (hts _ (zg_r0 _ hm)) h1
  have hM : ∀ i, i < 3 → ∀ (own tx : String) (k : Nat), zg_tn i = .string own k → (own, k, tx) ∈ zg_rt → vk_R own k tx (ra i) s := by
    intro i hi own tx k e hm
    rw [rk i hi]
    obtain ⟨a, h2, h3⟩ := zg_R (hts _ (zg_r0 _ hm))
    have h4 := hs _ (zg_eq i hi)
    rw [e] at h4
    rw [zg_eqR h4 (hev i hi) h2]
    exact h3
  refine ⟨D, cA, ra, adV, r99, ⟨hD, fun k q hk => ?_⟩, vx_Zqof (ht _ (List.mem_of_getElem? (i := 0) rfl)) (ht _ (List.mem_of_getElem? (i := 4) rfl)) (hu _ (List.mem_of_getElem? (i := 0) rfl)) zg_A, vx_Zqof (ht _ (List.mem_of_getElem? (i := 1) rfl)) (ht _ (List.mem_of_getElem? (i := 4) rfl)) (hu _ (List.mem_of_getElem? (i := 1) rfl)) zg_A, fun q hq => ?_, fun q hq => ?_, fun w hw => ?_, fun E hE T hT ne => va_Nc.of (hs _ (zg_nc E hE T hT ne)), a3, ⟨cA .int, rfl, a2⟩, by rw [r99]; exact hX, zg_re hS rk, va_Zof (ht _ (List.mem_of_getElem? (i := 2) rfl)) (ht _ (List.mem_of_getElem? (i := 5) rfl)) (va_eqt (hu _ (List.mem_of_getElem? (i := 2) rfl))) zg_A, vx_Zqof (ht _ (List.mem_of_getElem? (i := 3) rfl)) (ht _ (List.mem_of_getElem? (i := 6) rfl)) (hu _ (List.mem_of_getElem? (i := 3) rfl)) zg_A⟩
  · obtain ⟨t, ht9, rfl⟩ := List.mem_map.mp (List.mem_of_getElem? hk)
    exact a1 t ht9
  · obtain ⟨i, -, hi⟩ := zg_sx q hq
    obtain ⟨a, -, h2⟩ := zg_R (hts _ (List.mem_of_getElem? hi))
    exact ⟨a, h2⟩
  · unfold z_srs at hq
    simp only [List.mem_cons, List.not_mem_nil, or_false] at hq
    rcases hq with rfl | rfl | rfl | rfl | rfl | rfl
    · exact ⟨_, hP 0 (by omega) _ "rectangle" _ rfl (by simp [zg_rt])⟩
    · exact ⟨_, hP 1 (by omega) _ "ban" _ rfl (by simp [zg_rt])⟩
    · exact ⟨_, hP 2 (by omega) _ "given" _ rfl (by simp [zg_rt])⟩
    · exact ⟨_, hM 0 (by omega) _ "rectangle" _ rfl (by simp [zg_rt])⟩
    · exact ⟨_, hM 1 (by omega) _ "ban" _ rfl (by simp [zg_rt])⟩
    · exact ⟨_, hM 2 (by omega) _ "given" _ rfl (by simp [zg_rt])⟩
  · have h2 := (List.mem_filter.mp hw).2
    refine va_Nw.of ?_ (hts w (List.mem_filter.mp hw).1)
    cases w <;> first | rfl | (simp [z_isV] at h2; done)
end
