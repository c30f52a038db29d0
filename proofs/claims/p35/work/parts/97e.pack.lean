/-! four characters in an int -/
theorem by4_g (x : Int32) {c e f k2 : Nat} {s t : Int32} (hs : (s.toBitVec.smod 32#32).toNat = e) (ht : (t.toBitVec.smod 32#32).toNat = f) (h8 : (((nI 8).toBitVec &&& 31#32).smod 32#32).toNat = 8) (hc : c < 256) (hef : f = e + 8) (hf : f ≤ 24) : ((x <<< (nI 8 &&& 31) ||| nI c) >>> t).toInt8 = (x >>> s).toInt8 := by
  have hcb : ∀ i, 8 ≤ i → c.testBit i = false := fun i hi => Nat.testBit_lt_two_pow (Nat.lt_of_lt_of_le hc (Nat.pow_le_pow_right (by omega) hi : 2 ^ 8 ≤ 2 ^ i))
  have hn : (nI c).toBitVec = BitVec.ofNat 32 c := by simp [nI]
  apply Int8.toBitVec_inj.mp
  apply BitVec.eq_of_getLsbD_eq
  intro i hi
  simp
  rw [hs, ht, BitVec.getLsbD_signExtend, BitVec.getLsbD_signExtend, BitVec.getLsbD_sshiftRight, BitVec.getLsbD_sshiftRight]
  have h1 : i < 8 := hi
  have h2 : f + i < 32 := by omega
  have h2b : e + i < 32 := by omega
  have h3 : i < 32 := by omega
  simp [h1, h2, h2b, h3, h8, hn, BitVec.getLsbD_shiftLeft]
  have h4 : ¬ f + i < 8 := by omega
  have h5 : f + i - 8 = e + i := by omega
  have h6 := hcb (f + i) (by omega)
  have h7 : ¬ 32 ≤ i := by omega
  have q1 : (BitVec.ofNat 32 c)[f + i] = false := by rw [← BitVec.getLsbD_eq_getElem, BitVec.getLsbD_ofNat, h6]; simp
  simp [h4, h5, q1, h7]
theorem by4_s (x : Int32) {c k : Nat} (hc : c < 256) (hk : k < 3) : by4 (x <<< (nI 8 &&& 31) ||| nI c) k = by4 x (k + 1) := by
  unfold by4
  rcases (show k = 0 ∨ k = 1 ∨ k = 2 by omega) with rfl | rfl | rfl
  · exact by4_g x (e := 16) (f := 24) (k2 := 0) (by decide +kernel) (by decide +kernel) (by decide +kernel) hc (by omega) (by omega)
  · exact by4_g x (e := 8) (f := 16) (k2 := 0) (by decide +kernel) (by decide +kernel) (by decide +kernel) hc (by omega) (by omega)
  · exact by4_g x (e := 0) (f := 8) (k2 := 0) (by decide +kernel) (by decide +kernel) (by decide +kernel) hc (by omega) (by omega)
theorem by4_l (x : Int32) {c : Nat} (hc : c < 256) : (by4 (x <<< (nI 8 &&& 31) ||| nI c) 3).toInt32 = bs c := by
  have hn : (nI c).toBitVec = BitVec.ofNat 32 c := by simp [nI]
  have h8 : (((nI 8).toBitVec &&& 31#32).smod 32#32).toNat = 8 := by decide +kernel
  have h0 : (((nI 0).toBitVec &&& 31#32).smod 32#32).toNat = 0 := by decide +kernel
  unfold by4 bs
  congr 1
  apply Int8.toBitVec_inj.mp
  apply BitVec.eq_of_getLsbD_eq
  intro i hi
  simp
  rw [h0, BitVec.getLsbD_signExtend, BitVec.getLsbD_sshiftRight]
  have h1 : i < 8 := hi
  have h3 : i < 32 := by omega
  simp [h1, h3, h8, hn, BitVec.getLsbD_shiftLeft]
  have h7 : ¬ 32 ≤ i := by omega
  have q1 : (BitVec.ofNat 32 c)[i] = c.testBit i := by rw [← BitVec.getLsbD_eq_getElem, BitVec.getLsbD_ofNat]; simp [h3]
  have q2 : (BitVec.ofNat 8 c)[i] = c.testBit i := by rw [← BitVec.getLsbD_eq_getElem, BitVec.getLsbD_ofNat]; simp [h1]
  simp [h7, q1, q2]
