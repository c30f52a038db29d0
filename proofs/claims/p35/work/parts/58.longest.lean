/-! transversals: the longest, on both sides -/
def lm (p : Nat → Bool) (F : Nat → Nat) : Nat → Nat → Nat → Nat
  | 0, _, m => m
  | k + 1, i, m => lm p F k (i + 1) (if p i = true then max m (1 + F i) else m)
def GS.ln (S : GS) : Nat → Nat → (Nat → Bool) → (Nat → Bool) → Nat
  | 0, _, _, _ => 0
  | k + 1, r, bz, us => lm (fun c => S.fr r c bz us) (fun c => S.ln k (r + 1) (ad bz c) (ad us (S.c (r * 5 + c)))) S.C 0 (S.ln k (r + 1) bz us)
theorem lm_le {p : Nat → Bool} {F : Nat → Nat} {B : Nat} (hF : ∀ c, F c < B) : ∀ (k i m : Nat), m ≤ B → lm p F k i m ≤ B
  | 0, _, _, h => h
  | k + 1, i, m, h => by
    unfold lm
    have := hF i
    exact lm_le hF k (i + 1) _ (by split <;> omega)
theorem ln_le {S : GS} : ∀ (k r : Nat) (bz us : Nat → Bool), S.ln k r bz us ≤ k
  | 0, _, _, _ => Nat.le_refl _
  | k + 1, r, bz, us => lm_le (fun c => by have := ln_le (S := S) k (r + 1) (ad bz c) (ad us (S.c (r * 5 + c))); omega) _ _ _ (by have := ln_le (S := S) k (r + 1) bz us; omega)
section
variable {g : z_G} {d : Nat} {f : Nat → Option z_C} {q : Option Nat × Nat × Nat} {P : z_Res → Prop} {a ch : Nat} {S : GS} {FR FC : Int32} {cr : Nat}
end
