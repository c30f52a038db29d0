/-! what is known at the start -/
section
variable {args : Array Value} {s : State}
theorem za_1 {t : FieldType} (h : (Cond.arrayClass t).before args s = true) : ∃ cA, ArrOfT s cA t ∧ s.vm.findClass ("[" ++ t.toString) = some cA := by
  obtain ⟨c, k, comp, h1, h2, h3⟩ := Cond.arrayClass_spec h
  exact ⟨c, fun n z => ⟨fun k h => (by cases h), k, h2, comp, h3⟩, h1⟩
theorem za_2 {t : FieldType} (h : (Cond.arrayOver (.array t)).before args s = true) : ∃ cA, ArrOfT s cA (.array t) ∧ s.vm.findClass ("[" ++ (FieldType.array t).toString) = some cA := by
  obtain ⟨comp, c, k, h1, h2, h3, h4⟩ := Cond.arrayOver_specA h
  exact ⟨c, fun n z => ⟨fun k h => (by cases h), k, h2, comp, h3⟩, h4⟩
theorem za_ar (hts : ∀ w ∈ lw_tbl, w.before args s = true) : ∃ cA : FieldType → ClassId, (∀ t ∈ z_tyl, ArrOfT s (cA t) t ∧ va_RA s (cA t) t) ∧ s.vm.findClass "[I" = some (cA .int) ∧ va_AOA .int s := by
  have hm : ∀ t, Cond.arrayClass t ∈ z_acs.map (fun q => Cond.arrayClass q.1) → (Cond.arrayClass t).before args s = true := fun t h => hts _ (z_places z_ac0 _ h)
  obtain ⟨c1, a1, b1⟩ := za_1 (hm .int (by simp [z_acs]))
  obtain ⟨c2, a2, b2⟩ := za_1 (hm .boolean (by simp [z_acs]))
  obtain ⟨c3, a3, b3⟩ := za_1 (hm .byte (by simp [z_acs]))
  obtain ⟨c4, a4, b4⟩ := za_1 (hm .long (by simp [z_acs]))
  have h5 : (Cond.arrayOver (.array .int)).before args s = true := hts _ (List.mem_of_getElem? (i := 305) rfl)
  obtain ⟨c5, a5, b5⟩ := za_2 h5
  refine ⟨fun t => match t with | .int => c1 | .boolean => c2 | .byte => c3 | .long => c4 | _ => c5, fun t ht => ?_, b1, va_AOA.of h5⟩
  unfold z_tyl at ht
  simp only [List.mem_cons, List.not_mem_nil, or_false] at ht
  rcases ht with rfl | rfl | rfl | rfl | rfl
  · exact ⟨a1, b1⟩
  · exact ⟨a2, b2⟩
  · exact ⟨a3, b3⟩
  · exact ⟨a4, b4⟩
  · exact ⟨a5, b5⟩
end
