/-! the claim's walk out of the run -/
theorem ws_core {p : Program} {l : Launch} {e : Env} {R : Room} {s : State} {m : MethodId} {below : List Frame} {meth : Method} {c : Code} {b L : Nat} {xs : Nat → Int32} {Q : State → Prop} {D : va_G} {cA : FieldType → ClassId} {ra adV : Nat → Nat} (hL : L ≤ 260) (hl : l.stackTraces = false) (hF : z_FR 154 p l s m #[Value.ref b] meth c) (hml : c.maxLocals = 4) (hra : ra 99 = b) (hE : z_EV D cA ra adV s.heap (L, xs) s) (hR1 : 91 ≤ R.frames) (hR2 : 9100 ≤ R.locals) (hR3 : 30000 ≤ R.cells) (hR4 : 1800000 ≤ R.slots) (hQ : ∀ (pc2 : Nat) (lsR2 : Array Slot) (H2 : Heap), decode c.code pc2 = .ok (.ireturn, 1) → W p l e R s m #[Value.ref b] below meth c H2 [] 30000 1800000 Q (F0 m pc2 lsR2 [.int 1])) : W p l e R s m #[Value.ref b] below meth c s.heap [] 0 0 Q (entryFrame m ([Value.ref b] : List Value).toArray 4) := by
  have run : z_Ca (L, xs) 81 154 [.retAddr 99] (fun _ => none, some s.heap.size, 0, 0) (fun r => r.1 = .inr (some (.int (nI 1))) ∧ r.2.2.2.1 ≤ 30000 ∧ r.2.2.2.2 ≤ 1800000) := law_all (by omega) (show L < 2147483648 by omega) fun h' q' h1 h2 => ⟨rfl, h1, h2⟩
  obtain ⟨-, n, r, hr, h1, h2, h3⟩ := run
  have S := z_sound (D := D) (cA := cA) (ra := ra) (adV := adV) (HB := s.heap) hl n 81 154 0 _ _ _ _ hr
  have hl0 := lv_entry ([.ref b]) (n := 4) (Nat.le_of_ble_eq_true rfl)
  rw [lg_entry_eq]
  generalize (lg_sl ([.ref b]) ++ List.replicate (4 - (lg_sl ([.ref b])).length) Slot.unset).toArray = ls at hl0 ⊢
  have kn : z_kn ra (z_pad 154 [.retAddr 99]) = [(0, .ref b)] := by
    rw [← hra]
    rfl
  refine S p e R s m #[Value.ref b] below meth c s.heap [] 0 0 Q ls 0 0 hF hE ⟨Nat.le_refl _, fun _ _ => rfl⟩ (by omega) (by omega) (by omega) (by omega) (by rw [hml]; rfl) ⟨fun a cx hx => (nomatch hx), fun q hq => (by cases hq; rfl), Nat.le_refl _, fun _ _ => rfl⟩ ⟨by rw [kn]; exact hl0, fun v hv => ?_⟩ (fun q hq => nomatch hq) rfl rfl ⟨?_, ?_⟩
  · revert v
    decide
  · intro v hv pc2 i2 st2 lsR2 H2 locs2 cells2 slots2 hret hd hHR hlo hc hs
    rw [h1] at hv
    cases hv
    rcases hret with ⟨-, h, -⟩ | ⟨x, t, rfl, h, rfl, -⟩ | ⟨w, t, -, h, -, h9, -⟩
    · cases h
    · cases h
      refine va_forget hlo ?_
      refine W.widen (k := 30000) (n := 1800000) (by omega) (by omega) ?_
      exact hQ pc2 lsR2 H2 hd
    · cases h
      rcases h9 with h9 | ⟨a, h9⟩ <;> cases h9
  · intro E hE
    rw [h1] at hE
    cases hE
