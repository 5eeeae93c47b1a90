/-! the bits of a long, counted as the library does it, are counted -/
theorem zz_andL (a b : Nat) : lN a &&& lN b = lN (a &&& b) := by
  apply Int64.toBitVec_inj.1
  show BitVec.ofNat 64 a &&& BitVec.ofNat 64 b = BitVec.ofNat 64 (a &&& b)
  apply BitVec.eq_of_getLsbD_eq
  intro i hi
  simp [hi]
theorem zz_orL (a b : Nat) : lN a ||| lN b = lN (a ||| b) := by
  apply Int64.toBitVec_inj.1
  show BitVec.ofNat 64 a ||| BitVec.ofNat 64 b = BitVec.ofNat 64 (a ||| b)
  apply BitVec.eq_of_getLsbD_eq
  intro i hi
  simp [hi]
theorem zz_andI (a b : Nat) : nI a &&& nI b = nI (a &&& b) := by
  apply Int32.toBitVec_inj.1
  show BitVec.ofNat 32 a &&& BitVec.ofNat 32 b = BitVec.ofNat 32 (a &&& b)
  apply BitVec.eq_of_getLsbD_eq
  intro i hi
  simp [hi]
theorem zz_ushL (a k p : Nat) (s : Int32) (hy : (s.toInt64.toUInt64 &&& Int64.toUInt64 63).toNat % 64 = k) (hp : 2 ^ k = p) (ha : a < 2 ^ 64) : ushL (lN a) s = lN (a / p) := by
  unfold ushL
  apply Int64.toBitVec_inj.1
  apply BitVec.eq_of_toNat_eq
  show ((UInt64.ofNat a) >>> (s.toInt64.toUInt64 &&& Int64.toUInt64 63)).toNat = (UInt64.ofNat (a / p)).toNat
  rw [UInt64.toNat_shiftRight, hy, UInt64.toNat_ofNat', UInt64.toNat_ofNat', Nat.mod_eq_of_lt ha, Nat.shiftRight_eq_div_pow, hp, Nat.mod_eq_of_lt (Nat.lt_of_le_of_lt (Nat.div_le_self _ _) ha)]
theorem and_sp {k a c : Nat} (b d : Nat) (ha : a < 2 ^ k) (hc : c < 2 ^ k) : (2 ^ k * b + a) &&& (2 ^ k * d + c) = 2 ^ k * (b &&& d) + (a &&& c) := by
  apply Nat.eq_of_testBit_eq
  intro j
  have hac : a &&& c < 2 ^ k := Nat.lt_of_le_of_lt Nat.and_le_left ha
  rw [Nat.testBit_and, Nat.testBit_two_pow_mul_add _ ha, Nat.testBit_two_pow_mul_add _ hc, Nat.testBit_two_pow_mul_add _ hac]
  by_cases h : j < k
  · rw [if_pos h, if_pos h, if_pos h, Nat.testBit_and]
  · rw [if_neg h, if_neg h, if_neg h, Nat.testBit_and]
def zs1 (M n : Nat) : Nat := n - (n / 2 &&& M)
def zs2 (M n : Nat) : Nat := (n &&& M) + (n / 4 &&& M)
def zs3 (M n : Nat) : Nat := (n + n / 16) &&& M
def zp1 (a : Nat) : Nat := a - (a / 2 &&& 85)
def zp2 (a : Nat) : Nat := (a &&& 51) + (a / 4 &&& 51)
def zp3 (a : Nat) : Nat := (a + a / 16) &&& 15
set_option maxRecDepth 100000 in
theorem zc1 : ∀ (r : Fin 2) (a : Fin 256), (128 * r.val + a.val / 2) &&& 85 = a.val / 2 &&& 85 := by decide +kernel
set_option maxRecDepth 100000 in
theorem zc2 : ∀ (r : Fin 4) (a : Fin 256), (64 * r.val + a.val / 4) &&& 51 = a.val / 4 &&& 51 := by decide +kernel
set_option maxRecDepth 100000 in
theorem zc3 : ∀ (r : Fin 5) (a : Fin 69), (16 * r.val + a.val + a.val / 16) &&& 15 = zp3 a.val := by decide +kernel
set_option maxRecDepth 100000 in
theorem zc4 : ∀ a : Fin 256, zp1 a.val < 256 ∧ zp2 (zp1 a.val) ≤ 68 ∧ zp2 (zp1 a.val) % 16 ≤ 4 := by decide +kernel
theorem z1 (M b a : Nat) (ha : a < 256) : zs1 (256 * M + 85) (256 * b + a) = 256 * zs1 M b + zp1 a := by
  have e : (256 * b + a) / 2 = 256 * (b / 2) + (128 * (b % 2) + a / 2) := by omega
  have h := and_sp (k := 8) (b / 2) M (a := 128 * (b % 2) + a / 2) (c := 85) (by omega) (by omega)
  have q : (128 * (b % 2) + a / 2) &&& 85 = a / 2 &&& 85 := zc1 ⟨b % 2, Nat.mod_lt _ (by omega)⟩ ⟨a, ha⟩
  have l1 : (b / 2 &&& M) ≤ b / 2 := Nat.and_le_left
  have l2 : (a / 2 &&& 85) ≤ a / 2 := Nat.and_le_left
  have h : (256 * (b / 2) + (128 * (b % 2) + a / 2)) &&& (256 * M + 85) = 256 * (b / 2 &&& M) + ((128 * (b % 2) + a / 2) &&& 85) := h
  unfold zs1 zp1
  rw [e, h, q]
  omega
theorem z2 (M b a : Nat) (ha : a < 256) : zs2 (256 * M + 51) (256 * b + a) = 256 * zs2 M b + zp2 a := by
  have e : (256 * b + a) / 4 = 256 * (b / 4) + (64 * (b % 4) + a / 4) := by omega
  have h1 : (256 * b + a) &&& (256 * M + 51) = 256 * (b &&& M) + (a &&& 51) := and_sp (k := 8) b M (a := a) (c := 51) (by omega) (by omega)
  have h : (256 * (b / 4) + (64 * (b % 4) + a / 4)) &&& (256 * M + 51) = 256 * (b / 4 &&& M) + ((64 * (b % 4) + a / 4) &&& 51) := and_sp (k := 8) (b / 4) M (a := 64 * (b % 4) + a / 4) (c := 51) (by omega) (by omega)
  have q : (64 * (b % 4) + a / 4) &&& 51 = a / 4 &&& 51 := zc2 ⟨b % 4, Nat.mod_lt _ (by omega)⟩ ⟨a, ha⟩
  unfold zs2 zp2
  rw [e, h, h1, q]
  omega
theorem z3 (M b a : Nat) (ha : a ≤ 68) (hb : b % 16 ≤ 4) : zs3 (256 * M + 15) (256 * b + a) = 256 * zs3 M b + zp3 a := by
  have e : 256 * b + a + (256 * b + a) / 16 = 256 * (b + b / 16) + (16 * (b % 16) + a + a / 16) := by omega
  have h : (256 * (b + b / 16) + (16 * (b % 16) + a + a / 16)) &&& (256 * M + 15) = 256 * ((b + b / 16) &&& M) + ((16 * (b % 16) + a + a / 16) &&& 15) := and_sp (k := 8) (b + b / 16) M (a := 16 * (b % 16) + a + a / 16) (c := 15) (by omega) (by omega)
  have q : (16 * (b % 16) + a + a / 16) &&& 15 = zp3 a := zc3 ⟨b % 16, by omega⟩ ⟨a, by omega⟩
  unfold zs3
  rw [e, h, q]
def zS (M1 M2 M3 n : Nat) : Nat := zs3 M3 (zs2 M2 (zs1 M1 n))
def zB (a : Nat) : Nat := zp3 (zp2 (zp1 a))
theorem zstep (M1 M2 M3 b a : Nat) (ha : a < 256) (hb : zs2 M2 (zs1 M1 b) % 16 ≤ 4) : zS (256 * M1 + 85) (256 * M2 + 51) (256 * M3 + 15) (256 * b + a) = 256 * zS M1 M2 M3 b + zB a ∧ zs2 (256 * M2 + 51) (zs1 (256 * M1 + 85) (256 * b + a)) % 16 ≤ 4 := by
  obtain ⟨k1, k2, k3⟩ := zc4 ⟨a, ha⟩
  have k1 : zp1 a < 256 := k1
  have k2 : zp2 (zp1 a) ≤ 68 := k2
  have k3 : zp2 (zp1 a) % 16 ≤ 4 := k3
  have e : zs2 (256 * M2 + 51) (zs1 (256 * M1 + 85) (256 * b + a)) = 256 * zs2 M2 (zs1 M1 b) + zp2 (zp1 a) := by rw [z1 _ _ _ ha, z2 _ _ _ k1]
  refine ⟨?_, by rw [e]; omega⟩
  unfold zS
  rw [e, z3 _ _ _ k2 hb]
  rfl
theorem zS0 (M1 M2 M3 : Nat) : zS M1 M2 M3 0 = 0 ∧ zs2 M2 (zs1 M1 0) = 0 := by
  have h : ∀ M : Nat, 0 &&& M = 0 := fun M => Nat.zero_and M
  have e1 : zs1 M1 0 = 0 := by
    unfold zs1
    exact Nat.zero_sub _
  have e2 : zs2 M2 0 = 0 := by
    unfold zs2
    show (0 &&& M2) + (0 &&& M2) = 0
    rw [h]
  refine ⟨?_, by rw [e1, e2]⟩
  unfold zS
  rw [e1, e2]
  exact h M3
