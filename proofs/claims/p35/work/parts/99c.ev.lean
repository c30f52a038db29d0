/-! the classes at the start -/
section
variable {args : Array Value} {s : State}
set_option maxRecDepth 100000 in
theorem zsc_0 : ∀ w ∈ u_ws RX0 TX0 4, w ∈ lw_tbl := by decide +kernel
set_option maxRecDepth 100000 in
theorem zsi_0 : Cond.instantiable RX0 4 ∈ lw_tbl := by decide +kernel
set_option maxRecDepth 100000 in
theorem zsc_1 : ∀ w ∈ u_ws RX1 TX1 3, w ∈ lw_tbl := by decide +kernel
set_option maxRecDepth 100000 in
theorem zsi_1 : Cond.instantiable RX1 3 ∈ lw_tbl := by decide +kernel
set_option maxRecDepth 100000 in
theorem zsc_2 : ∀ w ∈ u_ws RX2 TX2 1, w ∈ lw_tbl := by decide +kernel
set_option maxRecDepth 100000 in
theorem zsi_2 : Cond.instantiable RX2 1 ∈ lw_tbl := by decide +kernel
set_option maxRecDepth 100000 in
theorem zsc_3 : ∀ w ∈ u_ws RX3 TX3 10, w ∈ lw_tbl := by decide +kernel
set_option maxRecDepth 100000 in
theorem zsi_3 : Cond.instantiable RX3 10 ∈ lw_tbl := by decide +kernel
set_option maxRecDepth 100000 in
theorem zsc_4 : ∀ w ∈ u_ws RX4 TX4 3, w ∈ lw_tbl := by decide +kernel
set_option maxRecDepth 100000 in
theorem zsi_4 : Cond.instantiable RX4 3 ∈ lw_tbl := by decide +kernel
set_option maxRecDepth 100000 in
theorem zsc_5 : ∀ w ∈ u_ws RX5 TX5 4, w ∈ lw_tbl := by decide +kernel
set_option maxRecDepth 100000 in
theorem zsi_5 : Cond.instantiable RX5 4 ∈ lw_tbl := by decide +kernel
set_option maxRecDepth 100000 in
theorem zsc_6 : ∀ w ∈ u_ws RX6 TX6 2, w ∈ lw_tbl := by decide +kernel
set_option maxRecDepth 100000 in
theorem zsi_6 : Cond.instantiable RX6 2 ∈ lw_tbl := by decide +kernel
set_option maxRecDepth 100000 in
theorem zsc_7 : ∀ w ∈ u_ws RX7 TX7 7, w ∈ lw_tbl := by decide +kernel
set_option maxRecDepth 100000 in
theorem zsi_7 : Cond.instantiable RX7 7 ∈ lw_tbl := by decide +kernel
set_option maxRecDepth 100000 in
theorem zsc_8 : ∀ w ∈ u_ws RX8 TX8 4, w ∈ lw_tbl := by decide +kernel
set_option maxRecDepth 100000 in
theorem zsi_8 : Cond.instantiable RX8 4 ∈ lw_tbl := by decide +kernel
set_option maxRecDepth 100000 in
theorem zsc_9 : ∀ w ∈ u_ws RX9 TX9 11, w ∈ lw_tbl := by decide +kernel
set_option maxRecDepth 100000 in
theorem zsi_9 : Cond.instantiable RX9 11 ∈ lw_tbl := by decide +kernel
set_option maxRecDepth 100000 in
theorem zsc_10 : ∀ w ∈ u_ws RX10 TX10 12, w ∈ lw_tbl := by decide +kernel
set_option maxRecDepth 100000 in
theorem zsi_10 : Cond.instantiable RX10 12 ∈ lw_tbl := by decide +kernel
set_option maxRecDepth 100000 in
theorem zsc_11 : ∀ w ∈ u_ws RJ0 TJ0 4, w ∈ lw_tbl := by decide +kernel
set_option maxRecDepth 100000 in
theorem zsi_11 : Cond.instantiable RJ0 4 ∈ lw_tbl := by decide +kernel
set_option maxRecDepth 100000 in
theorem zsc_12 : ∀ w ∈ u_ws RJ4 TJ4 4, w ∈ lw_tbl := by decide +kernel
set_option maxRecDepth 100000 in
theorem zsi_12 : Cond.instantiable RJ4 4 ∈ lw_tbl := by decide +kernel
theorem za_cl (hts : ∀ w ∈ lw_tbl, w.before args s = true) : ∃ D : va_G, ∀ (c : Nat) (q : vw_C), vwCl[c]? = some q → u_Kn s q.1 q.2.1 q.2.2 (D.1 c) (D.2 c) := by
  obtain ⟨c0, i0, k0⟩ := u_known (C := RX0) (T := TX0) (N := 4) (n := 4) hts zsc_0 (hts _ zsi_0)
  obtain ⟨c1, i1, k1⟩ := u_known (C := RX1) (T := TX1) (N := 3) (n := 3) hts zsc_1 (hts _ zsi_1)
  obtain ⟨c2, i2, k2⟩ := u_known (C := RX2) (T := TX2) (N := 1) (n := 1) hts zsc_2 (hts _ zsi_2)
  obtain ⟨c3, i3, k3⟩ := u_known (C := RX3) (T := TX3) (N := 10) (n := 10) hts zsc_3 (hts _ zsi_3)
  obtain ⟨c4, i4, k4⟩ := u_known (C := RX4) (T := TX4) (N := 3) (n := 3) hts zsc_4 (hts _ zsi_4)
  obtain ⟨c5, i5, k5⟩ := u_known (C := RX5) (T := TX5) (N := 4) (n := 4) hts zsc_5 (hts _ zsi_5)
  obtain ⟨c6, i6, k6⟩ := u_known (C := RX6) (T := TX6) (N := 2) (n := 2) hts zsc_6 (hts _ zsi_6)
  obtain ⟨c7, i7, k7⟩ := u_known (C := RX7) (T := TX7) (N := 7) (n := 7) hts zsc_7 (hts _ zsi_7)
  obtain ⟨c8, i8, k8⟩ := u_known (C := RX8) (T := TX8) (N := 4) (n := 4) hts zsc_8 (hts _ zsi_8)
  obtain ⟨c9, i9, k9⟩ := u_known (C := RX9) (T := TX9) (N := 11) (n := 11) hts zsc_9 (hts _ zsi_9)
  obtain ⟨c10, i10, k10⟩ := u_known (C := RX10) (T := TX10) (N := 12) (n := 12) hts zsc_10 (hts _ zsi_10)
  obtain ⟨c11, i11, k11⟩ := u_known (C := RJ0) (T := TJ0) (N := 4) (n := 4) hts zsc_11 (hts _ zsi_11)
  obtain ⟨c12, i12, k12⟩ := u_known (C := RJ4) (T := TJ4) (N := 4) (n := 4) hts zsc_12 (hts _ zsi_12)
  refine ⟨(fun k => match k with | 0 => c0 | 1 => c1 | 2 => c2 | 3 => c3 | 4 => c4 | 5 => c5 | 6 => c6 | 7 => c7 | 8 => c8 | 9 => c9 | 10 => c10 | 11 => c11 | _ => c12, fun k => match k with | 0 => i0 | 1 => i1 | 2 => i2 | 3 => i3 | 4 => i4 | 5 => i5 | 6 => i6 | 7 => i7 | 8 => i8 | 9 => i9 | 10 => i10 | 11 => i11 | _ => i12), fun c q hq => ?_⟩
  match c, hq with
  | 0, hq => cases hq; exact k0
  | 1, hq => cases hq; exact k1
  | 2, hq => cases hq; exact k2
  | 3, hq => cases hq; exact k3
  | 4, hq => cases hq; exact k4
  | 5, hq => cases hq; exact k5
  | 6, hq => cases hq; exact k6
  | 7, hq => cases hq; exact k7
  | 8, hq => cases hq; exact k8
  | 9, hq => cases hq; exact k9
  | 10, hq => cases hq; exact k10
  | 11, hq => cases hq; exact k11
  | 12, hq => cases hq; exact k12
  | c + 13, hq => simp [vwCl] at hq
end
