/-! what is known at the start -/
section
variable {args : Array Value} {s : State}
theorem za_1 {t : FieldType} (h : (Cond.arrayClass t).before args s = true) : ∃ cA, ArrOfT s cA t ∧ s.vm.findClass ("[" ++ t.toString) = some cA := by
  obtain ⟨c, k, comp, h1, h2, h3⟩ := Cond.arrayClass_spec h
  exact ⟨c, fun n z => ⟨fun k h => (by cases h), k, h2, comp, h3⟩, h1⟩
theorem za_2 {t : FieldType} (h : (Cond.arrayOver (.array t)).before args s = true) : ∃ cA, ArrOfT s cA (.array t) ∧ s.vm.findClass ("[" ++ (FieldType.array t).toString) = some cA := by
  obtain ⟨comp, c, k, h1, h2, h3, h4⟩ := Cond.arrayOver_specA h
  exact ⟨c, fun n z => ⟨fun k h => (by cases h), k, h2, comp, h3⟩, h4⟩
theorem za_ar (hts : ∀ w ∈ lw_tbl, w.before args s = true) : ∃ cA : FieldType → ClassId, (∀ t ∈ z_tyl, ArrOfT s (cA t) t ∧ va_RA s (cA t) t) ∧ va_AOA .int s ∧ va_AOA .boolean s ∧ va_AOA (.array .boolean) s := by
  have hm : ∀ t, Cond.arrayClass t ∈ z_acs.map (fun q => Cond.arrayClass q.1) → (Cond.arrayClass t).before args s = true := fun t h => hts _ (z_places z_ac0 _ h)
  have ho : ∀ t, Cond.arrayOver t ∈ z_aos.map (fun q => Cond.arrayOver q.1) → (Cond.arrayOver t).before args s = true := fun t h => hts _ (z_places z_ao0 _ h)
  obtain ⟨c1, a1, b1⟩ := za_1 (hm .int (by simp [z_acs]))
  obtain ⟨c2, a2, b2⟩ := za_1 (hm .boolean (by simp [z_acs]))
  obtain ⟨c3, a3, b3⟩ := za_1 (hm .byte (by simp [z_acs]))
  have h4 : (Cond.arrayOver (.array .int)).before args s = true := ho _ (by simp [z_aos])
  have h5 : (Cond.arrayOver (.array .boolean)).before args s = true := ho _ (by simp [z_aos])
  have h6 : (Cond.arrayOver (.array (.array .boolean))).before args s = true := ho _ (by simp [z_aos])
  obtain ⟨c4, a4, b4⟩ := za_2 h4
  obtain ⟨c5, a5, b5⟩ := za_2 h5
  obtain ⟨c6, a6, b6⟩ := za_2 h6
  refine ⟨fun t => match t with | .int => c1 | .boolean => c2 | .byte => c3 | .array .int => c4 | .array .boolean => c5 | _ => c6, fun t ht => ?_, va_AOA.of h4, va_AOA.of h5, va_AOA.of h6⟩
  unfold z_tyl at ht
  simp only [List.mem_cons, List.not_mem_nil, or_false] at ht
  rcases ht with rfl | rfl | rfl | rfl | rfl | rfl
  · exact ⟨a1, b1⟩
  · exact ⟨a2, b2⟩
  · exact ⟨a3, b3⟩
  · exact ⟨a4, b4⟩
  · exact ⟨a5, b5⟩
  · exact ⟨a6, b6⟩
end
