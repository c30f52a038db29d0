/-! parse -/
section
variable {g : z_G} {d : Nat} {f : Nat → Option z_C} {fr : (Nat → GS) → (Nat → Int32) → (Nat → Nat → Int32) → Nat → Option z_C} {q : Option Nat × Nat × Nat} {P : z_Res → Prop} {B m : Nat} {G G' : Nat → GS} {I I' : Nat → Int32} {A A' : Nat → Nat → Int32} {J J' : Nat → Int32} {K K' : Nat → Nat → Int32} {S : GS}
theorem DM_MH {D : GS} (hJ : DM J K D) (h1 : J' 1 = J 4) (h2 : J' 2 = J 5) (h5 : ∀ k, k < 25 → K' 5 k = K 3 k) (h6 : ∀ k, k < 25 → K' 2 k = K 4 k) : MH J' K' D :=
  ⟨by rw [h1]; exact hJ.1, by rw [h2]; exact hJ.2.1, fun k hk => by rw [h5 k hk]; exact hJ.2.2.2.1 k hk, fun k hk => by rw [h6 k hk]; exact hJ.2.2.2.2 k hk⟩
end
