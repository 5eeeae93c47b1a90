/-! sets and counts of unlike tiles; what a step spends (no machine here; rows of whole) -/
def muL (f : Nat → Int32) : Nat → Int64
  | 0 => 0
  | t + 1 => if f t = -1 then muL f t else muL f t ||| (1 <<< ((nI t).toInt64 &&& 63))
theorem us_mu (v : SV) : ∀ t, usF v t = muL v.since t := by
  intro t
  induction t with
  | zero => rfl
  | succ t ih =>
    show (if v.since t = -1 then usF v t else usF v t ||| (1 <<< ((nI t).toInt64 &&& 63))) = (if v.since t = -1 then muL v.since t else muL v.since t ||| (1 <<< ((nI t).toInt64 &&& 63)))
    rw [ih]
def bnF (f : Nat → Int32) : Nat → Nat
  | 0 => 0
  | t + 1 => bnF f t + (if f t = -1 then 0 else 1)
theorem bnF_le (f : Nat → Int32) : ∀ t, bnF f t ≤ t := by
  intro t
  induction t with
  | zero => exact Nat.le_refl _
  | succ t ih =>
    show bnF f t + (if f t = -1 then 0 else 1) ≤ t + 1
    split <;> omega
theorem zz_andL (a b : Nat) : lN a &&& lN b = lN (a &&& b) := by
  apply Int64.toBitVec_inj.1
  show BitVec.ofNat 64 a &&& BitVec.ofNat 64 b = BitVec.ofNat 64 (a &&& b)
  apply BitVec.eq_of_getLsbD_eq
  intro i hi
  simp [hi]
theorem zz_orL (a b : Nat) : lN a ||| lN b = lN (a ||| b) := by
  apply Int64.toBitVec_inj.1
  show BitVec.ofNat 64 a ||| BitVec.ofNat 64 b = BitVec.ofNat 64 (a ||| b)
  apply BitVec.eq_of_getLsbD_eq
  intro i hi
  simp [hi]
theorem zz_andI (a b : Nat) : nI a &&& nI b = nI (a &&& b) := by
  apply Int32.toBitVec_inj.1
  show BitVec.ofNat 32 a &&& BitVec.ofNat 32 b = BitVec.ofNat 32 (a &&& b)
  apply BitVec.eq_of_getLsbD_eq
  intro i hi
  simp [hi]
theorem zz_ushL (a k p : Nat) (s : Int32) (hy : (s.toInt64.toUInt64 &&& Int64.toUInt64 63).toNat % 64 = k) (hp : 2 ^ k = p) (ha : a < 2 ^ 64) : ushL (lN a) s = lN (a / p) := by
  unfold ushL
  apply Int64.toBitVec_inj.1
  apply BitVec.eq_of_toNat_eq
  show ((UInt64.ofNat a) >>> (s.toInt64.toUInt64 &&& Int64.toUInt64 63)).toNat = (UInt64.ofNat (a / p)).toNat
  rw [UInt64.toNat_shiftRight, hy, UInt64.toNat_ofNat', UInt64.toNat_ofNat', Nat.mod_eq_of_lt ha, Nat.shiftRight_eq_div_pow, hp, Nat.mod_eq_of_lt (Nat.lt_of_le_of_lt (Nat.div_le_self _ _) ha)]
theorem and_sp {k a c : Nat} (b d : Nat) (ha : a < 2 ^ k) (hc : c < 2 ^ k) : (2 ^ k * b + a) &&& (2 ^ k * d + c) = 2 ^ k * (b &&& d) + (a &&& c) := by
  apply Nat.eq_of_testBit_eq
  intro j
  have hac : a &&& c < 2 ^ k := Nat.lt_of_le_of_lt Nat.and_le_left ha
  rw [Nat.testBit_and, Nat.testBit_two_pow_mul_add _ ha, Nat.testBit_two_pow_mul_add _ hc, Nat.testBit_two_pow_mul_add _ hac]
  by_cases h : j < k
  · rw [if_pos h, if_pos h, if_pos h, Nat.testBit_and]
  · rw [if_neg h, if_neg h, if_neg h, Nat.testBit_and]
def zs1 (M n : Nat) : Nat := n - (n / 2 &&& M)
def zs2 (M n : Nat) : Nat := (n &&& M) + (n / 4 &&& M)
def zs3 (M n : Nat) : Nat := (n + n / 16) &&& M
def zp1 (a : Nat) : Nat := a - (a / 2 &&& 85)
def zp2 (a : Nat) : Nat := (a &&& 51) + (a / 4 &&& 51)
def zp3 (a : Nat) : Nat := (a + a / 16) &&& 15
set_option maxRecDepth 100000 in
theorem zc1 : ∀ (r : Fin 2) (a : Fin 256), (128 * r.val + a.val / 2) &&& 85 = a.val / 2 &&& 85 := by decide +kernel
set_option maxRecDepth 100000 in
theorem zc2 : ∀ (r : Fin 4) (a : Fin 256), (64 * r.val + a.val / 4) &&& 51 = a.val / 4 &&& 51 := by decide +kernel
set_option maxRecDepth 100000 in
theorem zc3 : ∀ (r : Fin 5) (a : Fin 69), (16 * r.val + a.val + a.val / 16) &&& 15 = zp3 a.val := by decide +kernel
set_option maxRecDepth 100000 in
theorem zc4 : ∀ a : Fin 256, zp1 a.val < 256 ∧ zp2 (zp1 a.val) ≤ 68 ∧ zp2 (zp1 a.val) % 16 ≤ 4 := by decide +kernel
theorem z1 (M b a : Nat) (ha : a < 256) : zs1 (256 * M + 85) (256 * b + a) = 256 * zs1 M b + zp1 a := by
  have e : (256 * b + a) / 2 = 256 * (b / 2) + (128 * (b % 2) + a / 2) := by omega
  have h := and_sp (k := 8) (b / 2) M (a := 128 * (b % 2) + a / 2) (c := 85) (by omega) (by omega)
  have q : (128 * (b % 2) + a / 2) &&& 85 = a / 2 &&& 85 := zc1 ⟨b % 2, Nat.mod_lt _ (by omega)⟩ ⟨a, ha⟩
  have l1 : (b / 2 &&& M) ≤ b / 2 := Nat.and_le_left
  have l2 : (a / 2 &&& 85) ≤ a / 2 := Nat.and_le_left
  have h : (256 * (b / 2) + (128 * (b % 2) + a / 2)) &&& (256 * M + 85) = 256 * (b / 2 &&& M) + ((128 * (b % 2) + a / 2) &&& 85) := h
  unfold zs1 zp1
  rw [e, h, q]
  omega
theorem z2 (M b a : Nat) (ha : a < 256) : zs2 (256 * M + 51) (256 * b + a) = 256 * zs2 M b + zp2 a := by
  have e : (256 * b + a) / 4 = 256 * (b / 4) + (64 * (b % 4) + a / 4) := by omega
  have h1 : (256 * b + a) &&& (256 * M + 51) = 256 * (b &&& M) + (a &&& 51) := and_sp (k := 8) b M (a := a) (c := 51) (by omega) (by omega)
  have h : (256 * (b / 4) + (64 * (b % 4) + a / 4)) &&& (256 * M + 51) = 256 * (b / 4 &&& M) + ((64 * (b % 4) + a / 4) &&& 51) := and_sp (k := 8) (b / 4) M (a := 64 * (b % 4) + a / 4) (c := 51) (by omega) (by omega)
  have q : (64 * (b % 4) + a / 4) &&& 51 = a / 4 &&& 51 := zc2 ⟨b % 4, Nat.mod_lt _ (by omega)⟩ ⟨a, ha⟩
  unfold zs2 zp2
  rw [e, h, h1, q]
  omega
theorem z3 (M b a : Nat) (ha : a ≤ 68) (hb : b % 16 ≤ 4) : zs3 (256 * M + 15) (256 * b + a) = 256 * zs3 M b + zp3 a := by
  have e : 256 * b + a + (256 * b + a) / 16 = 256 * (b + b / 16) + (16 * (b % 16) + a + a / 16) := by omega
  have h : (256 * (b + b / 16) + (16 * (b % 16) + a + a / 16)) &&& (256 * M + 15) = 256 * ((b + b / 16) &&& M) + ((16 * (b % 16) + a + a / 16) &&& 15) := and_sp (k := 8) (b + b / 16) M (a := 16 * (b % 16) + a + a / 16) (c := 15) (by omega) (by omega)
  have q : (16 * (b % 16) + a + a / 16) &&& 15 = zp3 a := zc3 ⟨b % 16, by omega⟩ ⟨a, by omega⟩
  unfold zs3
  rw [e, h, q]
def zS (M1 M2 M3 n : Nat) : Nat := zs3 M3 (zs2 M2 (zs1 M1 n))
def zB (a : Nat) : Nat := zp3 (zp2 (zp1 a))
theorem zstep (M1 M2 M3 b a : Nat) (ha : a < 256) (hb : zs2 M2 (zs1 M1 b) % 16 ≤ 4) : zS (256 * M1 + 85) (256 * M2 + 51) (256 * M3 + 15) (256 * b + a) = 256 * zS M1 M2 M3 b + zB a ∧ zs2 (256 * M2 + 51) (zs1 (256 * M1 + 85) (256 * b + a)) % 16 ≤ 4 := by
  obtain ⟨k1, k2, k3⟩ := zc4 ⟨a, ha⟩
  have k1 : zp1 a < 256 := k1
  have k2 : zp2 (zp1 a) ≤ 68 := k2
  have k3 : zp2 (zp1 a) % 16 ≤ 4 := k3
  have e : zs2 (256 * M2 + 51) (zs1 (256 * M1 + 85) (256 * b + a)) = 256 * zs2 M2 (zs1 M1 b) + zp2 (zp1 a) := by rw [z1 _ _ _ ha, z2 _ _ _ k1]
  refine ⟨?_, by rw [e]; omega⟩
  unfold zS
  rw [e, z3 _ _ _ k2 hb]
  rfl
theorem zS0 (M1 M2 M3 : Nat) : zS M1 M2 M3 0 = 0 ∧ zs2 M2 (zs1 M1 0) = 0 := by
  have h : ∀ M : Nat, 0 &&& M = 0 := fun M => Nat.zero_and M
  have e1 : zs1 M1 0 = 0 := by
    unfold zs1
    exact Nat.zero_sub _
  have e2 : zs2 M2 0 = 0 := by
    unfold zs2
    show (0 &&& M2) + (0 &&& M2) = 0
    rw [h]
  refine ⟨?_, by rw [e1, e2]⟩
  unfold zS
  rw [e1, e2]
  exact h M3
def eqF (f : Nat → Int32) (t : Nat) : Nat := if f t = -1 then 0 else 1
theorem eqF_lt (f : Nat → Int32) (t : Nat) : eqF f t < 2 := by
  unfold eqF
  split <;> omega
def bqF (f : Nat → Int32) : Nat → Nat
  | 0 => 0
  | t + 1 => 2 ^ t * eqF f t + bqF f t
theorem bqF_lt (f : Nat → Int32) : ∀ t, bqF f t < 2 ^ t := by
  intro t
  induction t with
  | zero => exact Nat.zero_lt_one
  | succ t ih =>
    show 2 ^ t * eqF f t + bqF f t < 2 ^ (t + 1)
    have h := eqF_lt f t
    rw [Nat.pow_succ]
    rcases (show eqF f t = 0 ∨ eqF f t = 1 by omega) with q | q <;> rw [q] <;> omega
set_option maxRecDepth 100000 in
theorem shl_all : ∀ t : Fin 48, (1 : Int64) <<< ((nI t.val).toInt64 &&& 63) = lN (2 ^ t.val) := by decide +kernel
theorem mu_bq (f : Nat → Int32) : ∀ t, t ≤ 48 → muL f t = lN (bqF f t) := by
  intro t
  induction t with
  | zero => intro _; rfl
  | succ t ih =>
    intro ht
    show (if f t = -1 then muL f t else muL f t ||| (1 <<< ((nI t).toInt64 &&& 63))) = lN (2 ^ t * eqF f t + bqF f t)
    rw [ih (by omega)]
    unfold eqF
    by_cases h : f t = -1
    · rw [if_pos h, if_pos h, Nat.mul_zero, Nat.zero_add]
    · have e : (1 : Int64) <<< ((nI t).toInt64 &&& 63) = lN (2 ^ t) := shl_all ⟨t, by omega⟩
      rw [if_neg h, if_neg h, e, zz_orL, Nat.or_comm, Nat.two_pow_add_eq_or_of_lt (bqF_lt f t), Nat.mul_one]
def by8 (f : Nat → Int32) (s : Nat) : Nat := 1 * eqF f (s + 0) + 2 * eqF f (s + 1) + 4 * eqF f (s + 2) + 8 * eqF f (s + 3) + 16 * eqF f (s + 4) + 32 * eqF f (s + 5) + 64 * eqF f (s + 6) + 128 * eqF f (s + 7)
def sm8 (f : Nat → Int32) (s : Nat) : Nat := eqF f (s + 0) + eqF f (s + 1) + eqF f (s + 2) + eqF f (s + 3) + eqF f (s + 4) + eqF f (s + 5) + eqF f (s + 6) + eqF f (s + 7)
theorem bq_0 (f : Nat → Int32) : bqF f 8 = 1 * by8 f 0 + bqF f 0 := by
  have h : bqF f 8 = (2 ^ 7 * eqF f 7 + (2 ^ 6 * eqF f 6 + (2 ^ 5 * eqF f 5 + (2 ^ 4 * eqF f 4 + (2 ^ 3 * eqF f 3 + (2 ^ 2 * eqF f 2 + (2 ^ 1 * eqF f 1 + (2 ^ 0 * eqF f 0 + bqF f 0)))))))) := rfl
  rw [h]
  unfold by8
  simp only [Nat.reducePow, Nat.reduceAdd, Nat.zero_add, Nat.add_zero]
  omega
theorem bn_0 (f : Nat → Int32) : bnF f 8 = bnF f 0 + sm8 f 0 := by
  have h : bnF f 8 = ((((((((bnF f 0 + eqF f 0) + eqF f 1) + eqF f 2) + eqF f 3) + eqF f 4) + eqF f 5) + eqF f 6) + eqF f 7) := rfl
  rw [h]
  unfold sm8
  simp only [Nat.reduceAdd, Nat.zero_add, Nat.add_zero]
  omega
theorem bq_8 (f : Nat → Int32) : bqF f 16 = 256 * by8 f 8 + bqF f 8 := by
  have h : bqF f 16 = (2 ^ 15 * eqF f 15 + (2 ^ 14 * eqF f 14 + (2 ^ 13 * eqF f 13 + (2 ^ 12 * eqF f 12 + (2 ^ 11 * eqF f 11 + (2 ^ 10 * eqF f 10 + (2 ^ 9 * eqF f 9 + (2 ^ 8 * eqF f 8 + bqF f 8)))))))) := rfl
  rw [h]
  unfold by8
  simp only [Nat.reducePow, Nat.reduceAdd, Nat.zero_add, Nat.add_zero]
  omega
theorem bn_8 (f : Nat → Int32) : bnF f 16 = bnF f 8 + sm8 f 8 := by
  have h : bnF f 16 = ((((((((bnF f 8 + eqF f 8) + eqF f 9) + eqF f 10) + eqF f 11) + eqF f 12) + eqF f 13) + eqF f 14) + eqF f 15) := rfl
  rw [h]
  unfold sm8
  simp only [Nat.reduceAdd, Nat.zero_add, Nat.add_zero]
  omega
theorem bq_16 (f : Nat → Int32) : bqF f 24 = 65536 * by8 f 16 + bqF f 16 := by
  have h : bqF f 24 = (2 ^ 23 * eqF f 23 + (2 ^ 22 * eqF f 22 + (2 ^ 21 * eqF f 21 + (2 ^ 20 * eqF f 20 + (2 ^ 19 * eqF f 19 + (2 ^ 18 * eqF f 18 + (2 ^ 17 * eqF f 17 + (2 ^ 16 * eqF f 16 + bqF f 16)))))))) := rfl
  rw [h]
  unfold by8
  simp only [Nat.reducePow, Nat.reduceAdd, Nat.zero_add, Nat.add_zero]
  omega
theorem bn_16 (f : Nat → Int32) : bnF f 24 = bnF f 16 + sm8 f 16 := by
  have h : bnF f 24 = ((((((((bnF f 16 + eqF f 16) + eqF f 17) + eqF f 18) + eqF f 19) + eqF f 20) + eqF f 21) + eqF f 22) + eqF f 23) := rfl
  rw [h]
  unfold sm8
  simp only [Nat.reduceAdd, Nat.zero_add, Nat.add_zero]
  omega
theorem bq_24 (f : Nat → Int32) : bqF f 32 = 16777216 * by8 f 24 + bqF f 24 := by
  have h : bqF f 32 = (2 ^ 31 * eqF f 31 + (2 ^ 30 * eqF f 30 + (2 ^ 29 * eqF f 29 + (2 ^ 28 * eqF f 28 + (2 ^ 27 * eqF f 27 + (2 ^ 26 * eqF f 26 + (2 ^ 25 * eqF f 25 + (2 ^ 24 * eqF f 24 + bqF f 24)))))))) := rfl
  rw [h]
  unfold by8
  simp only [Nat.reducePow, Nat.reduceAdd, Nat.zero_add, Nat.add_zero]
  omega
theorem bn_24 (f : Nat → Int32) : bnF f 32 = bnF f 24 + sm8 f 24 := by
  have h : bnF f 32 = ((((((((bnF f 24 + eqF f 24) + eqF f 25) + eqF f 26) + eqF f 27) + eqF f 28) + eqF f 29) + eqF f 30) + eqF f 31) := rfl
  rw [h]
  unfold sm8
  simp only [Nat.reduceAdd, Nat.zero_add, Nat.add_zero]
  omega
theorem bq_32 (f : Nat → Int32) : bqF f 40 = 4294967296 * by8 f 32 + bqF f 32 := by
  have h : bqF f 40 = (2 ^ 39 * eqF f 39 + (2 ^ 38 * eqF f 38 + (2 ^ 37 * eqF f 37 + (2 ^ 36 * eqF f 36 + (2 ^ 35 * eqF f 35 + (2 ^ 34 * eqF f 34 + (2 ^ 33 * eqF f 33 + (2 ^ 32 * eqF f 32 + bqF f 32)))))))) := rfl
  rw [h]
  unfold by8
  simp only [Nat.reducePow, Nat.reduceAdd, Nat.zero_add, Nat.add_zero]
  omega
theorem bn_32 (f : Nat → Int32) : bnF f 40 = bnF f 32 + sm8 f 32 := by
  have h : bnF f 40 = ((((((((bnF f 32 + eqF f 32) + eqF f 33) + eqF f 34) + eqF f 35) + eqF f 36) + eqF f 37) + eqF f 38) + eqF f 39) := rfl
  rw [h]
  unfold sm8
  simp only [Nat.reduceAdd, Nat.zero_add, Nat.add_zero]
  omega
theorem bq_40 (f : Nat → Int32) : bqF f 48 = 1099511627776 * by8 f 40 + bqF f 40 := by
  have h : bqF f 48 = (2 ^ 47 * eqF f 47 + (2 ^ 46 * eqF f 46 + (2 ^ 45 * eqF f 45 + (2 ^ 44 * eqF f 44 + (2 ^ 43 * eqF f 43 + (2 ^ 42 * eqF f 42 + (2 ^ 41 * eqF f 41 + (2 ^ 40 * eqF f 40 + bqF f 40)))))))) := rfl
  rw [h]
  unfold by8
  simp only [Nat.reducePow, Nat.reduceAdd, Nat.zero_add, Nat.add_zero]
  omega
theorem bn_40 (f : Nat → Int32) : bnF f 48 = bnF f 40 + sm8 f 40 := by
  have h : bnF f 48 = ((((((((bnF f 40 + eqF f 40) + eqF f 41) + eqF f 42) + eqF f 43) + eqF f 44) + eqF f 45) + eqF f 46) + eqF f 47) := rfl
  rw [h]
  unfold sm8
  simp only [Nat.reduceAdd, Nat.zero_add, Nat.add_zero]
  omega
theorem bqF_48 (f : Nat → Int32) : bqF f 48 = 256 * (256 * (256 * (256 * (256 * (by8 f 40) + by8 f 32) + by8 f 24) + by8 f 16) + by8 f 8) + by8 f 0 := by
  have h : bqF f 0 = 0 := rfl
  rw [bq_40, bq_32, bq_24, bq_16, bq_8, bq_0, h]
  omega
theorem bnF_48 (f : Nat → Int32) : bnF f 48 = sm8 f 0 + sm8 f 8 + sm8 f 16 + sm8 f 24 + sm8 f 32 + sm8 f 40 := by
  have h : bnF f 0 = 0 := rfl
  rw [bn_40, bn_32, bn_24, bn_16, bn_8, bn_0, h, Nat.zero_add]
set_option maxRecDepth 100000 in
theorem zB_all : ∀ x0 x1 x2 x3 x4 x5 x6 x7 : Fin 2, zB (1 * x0.val + 2 * x1.val + 4 * x2.val + 8 * x3.val + 16 * x4.val + 32 * x5.val + 64 * x6.val + 128 * x7.val) = x0.val + x1.val + x2.val + x3.val + x4.val + x5.val + x6.val + x7.val := by decide +kernel
theorem zB_by (f : Nat → Int32) (s : Nat) : zB (by8 f s) = sm8 f s := zB_all ⟨eqF f (s + 0), eqF_lt _ _⟩ ⟨eqF f (s + 1), eqF_lt _ _⟩ ⟨eqF f (s + 2), eqF_lt _ _⟩ ⟨eqF f (s + 3), eqF_lt _ _⟩ ⟨eqF f (s + 4), eqF_lt _ _⟩ ⟨eqF f (s + 5), eqF_lt _ _⟩ ⟨eqF f (s + 6), eqF_lt _ _⟩ ⟨eqF f (s + 7), eqF_lt _ _⟩
theorem by8_lt (f : Nat → Int32) (s : Nat) : by8 f s < 256 := by
  have h0 := eqF_lt f (s + 0)
  have h1 := eqF_lt f (s + 1)
  have h2 := eqF_lt f (s + 2)
  have h3 := eqF_lt f (s + 3)
  have h4 := eqF_lt f (s + 4)
  have h5 := eqF_lt f (s + 5)
  have h6 := eqF_lt f (s + 6)
  have h7 := eqF_lt f (s + 7)
  unfold by8
  omega
theorem sm8_le (f : Nat → Int32) (s : Nat) : sm8 f s ≤ 8 := by
  have h0 := eqF_lt f (s + 0)
  have h1 := eqF_lt f (s + 1)
  have h2 := eqF_lt f (s + 2)
  have h3 := eqF_lt f (s + 3)
  have h4 := eqF_lt f (s + 4)
  have h5 := eqF_lt f (s + 5)
  have h6 := eqF_lt f (s + 6)
  have h7 := eqF_lt f (s + 7)
  unfold sm8
  omega
set_option maxRecDepth 100000 in
theorem zall (a0 a1 a2 a3 a4 a5 : Nat) (q0 : a0 < 256) (q1 : a1 < 256) (q2 : a2 < 256) (q3 : a3 < 256) (q4 : a4 < 256) (q5 : a5 < 256) : zS 6148914691236517205 3689348814741910323 1085102592571150095 (256 * (256 * (256 * (256 * (256 * (a5) + a4) + a3) + a2) + a1) + a0) = 256 * (256 * (256 * (256 * (256 * (zB a5) + zB a4) + zB a3) + zB a2) + zB a1) + zB a0 := by
  have h5 := zstep (21845) (13107) (3855) (0) a5 q5 (by rw [(zS0 21845 13107 3855).2]; omega)
  have h4 := zstep (256 * (21845) + 85) (256 * (13107) + 51) (256 * (3855) + 15) (256 * (0) + a5) a4 q4 h5.2
  have h3 := zstep (256 * (256 * (21845) + 85) + 85) (256 * (256 * (13107) + 51) + 51) (256 * (256 * (3855) + 15) + 15) (256 * (256 * (0) + a5) + a4) a3 q3 h4.2
  have h2 := zstep (256 * (256 * (256 * (21845) + 85) + 85) + 85) (256 * (256 * (256 * (13107) + 51) + 51) + 51) (256 * (256 * (256 * (3855) + 15) + 15) + 15) (256 * (256 * (256 * (0) + a5) + a4) + a3) a2 q2 h3.2
  have h1 := zstep (256 * (256 * (256 * (256 * (21845) + 85) + 85) + 85) + 85) (256 * (256 * (256 * (256 * (13107) + 51) + 51) + 51) + 51) (256 * (256 * (256 * (256 * (3855) + 15) + 15) + 15) + 15) (256 * (256 * (256 * (256 * (0) + a5) + a4) + a3) + a2) a1 q1 h2.2
  have h0 := zstep (256 * (256 * (256 * (256 * (256 * (21845) + 85) + 85) + 85) + 85) + 85) (256 * (256 * (256 * (256 * (256 * (13107) + 51) + 51) + 51) + 51) + 51) (256 * (256 * (256 * (256 * (256 * (3855) + 15) + 15) + 15) + 15) + 15) (256 * (256 * (256 * (256 * (256 * (0) + a5) + a4) + a3) + a2) + a1) a0 q0 h1.2
  have e0 : 256 * 0 + a5 = a5 := by omega
  have e := h0.1
  rw [h1.1, h2.1, h3.1, h4.1, h5.1, (zS0 21845 13107 3855).1, e0] at e
  have e9 : 256 * 0 + zB a5 = zB a5 := by omega
  rw [e9] at e
  exact e
theorem zb1 (x : Nat) (hx : x < 2 ^ 60) : bl1 (lN x) = lN (zs1 6148914691236517205 x) := by
  unfold bl1 zs1
  rw [zz_ushL x 1 2 1 (by decide) rfl (by omega), show (6148914691236517205 : Int64) = lN 6148914691236517205 from rfl, zz_andL]
  exact lN_sub (Nat.le_trans Nat.and_le_left (Nat.div_le_self _ _))
theorem zb2 (x : Nat) (hx : x < 2 ^ 60) : bl2 (lN x) = lN (zs2 3689348814741910323 x) := by
  unfold bl2 zs2
  rw [zz_ushL x 2 4 2 (by decide) rfl (by omega), show (3689348814741910323 : Int64) = lN 3689348814741910323 from rfl, zz_andL, zz_andL, lN_add]
theorem zb3 (x : Nat) (hx : x < 2 ^ 60) : bl3 (lN x) = lN (zs3 1085102592571150095 x) := by
  unfold bl3 zs3
  rw [zz_ushL x 4 16 4 (by decide) rfl (by omega), lN_add, show (1085102592571150095 : Int64) = lN 1085102592571150095 from rfl, zz_andL]
theorem zb4 (x : Nat) (hx : x < 2 ^ 60) : bl4 (lN x) = lN (x + x / 256) := by
  unfold bl4
  rw [zz_ushL x 8 256 8 (by decide) rfl (by omega), lN_add]
theorem zb5 (x : Nat) (hx : x < 2 ^ 60) : bl5 (lN x) = lN (x + x / 65536) := by
  unfold bl5
  rw [zz_ushL x 16 65536 16 (by decide) rfl (by omega), lN_add]
theorem zb6 (x : Nat) (hx : x < 2 ^ 60) : bl6 (lN x) = lN (x + x / 4294967296) := by
  unfold bl6
  rw [zz_ushL x 32 4294967296 32 (by decide) rfl (by omega), lN_add]
theorem bcL_bq (f : Nat → Int32) : bcL (lN (bqF f 48)) = nI (bnF f 48) := by
  have hn : bqF f 48 < 2 ^ 48 := bqF_lt f 48
  have l1 : zs1 6148914691236517205 (bqF f 48) ≤ bqF f 48 := Nat.sub_le _ _
  have l2 : zs2 3689348814741910323 (zs1 6148914691236517205 (bqF f 48)) ≤ zs1 6148914691236517205 (bqF f 48) + zs1 6148914691236517205 (bqF f 48) / 4 := Nat.add_le_add Nat.and_le_left Nat.and_le_left
  have hS : zS 6148914691236517205 3689348814741910323 1085102592571150095 (bqF f 48) = 256 * (256 * (256 * (256 * (256 * (sm8 f 40) + sm8 f 32) + sm8 f 24) + sm8 f 16) + sm8 f 8) + sm8 f 0 := by
    rw [bqF_48, zall _ _ _ _ _ _ (by8_lt f 0) (by8_lt f 8) (by8_lt f 16) (by8_lt f 24) (by8_lt f 32) (by8_lt f 40), zB_by, zB_by, zB_by, zB_by, zB_by, zB_by]
  have hS : zs3 1085102592571150095 (zs2 3689348814741910323 (zs1 6148914691236517205 (bqF f 48))) = 256 * (256 * (256 * (256 * (256 * (sm8 f 40) + sm8 f 32) + sm8 f 24) + sm8 f 16) + sm8 f 8) + sm8 f 0 := hS
  have k0 := sm8_le f 0
  have k1 := sm8_le f 8
  have k2 := sm8_le f 16
  have k3 := sm8_le f 24
  have k4 := sm8_le f 32
  have k5 := sm8_le f 40
  unfold bcL
  rw [zb1 _ (by omega), zb2 _ (by omega), zb3 _ (by omega), hS, bnF_48]
  generalize sm8 f 0 = s0 at *
  generalize sm8 f 8 = s1 at *
  generalize sm8 f 16 = s2 at *
  generalize sm8 f 24 = s3 at *
  generalize sm8 f 32 = s4 at *
  generalize sm8 f 40 = s5 at *
  rw [zb4 _ (by omega), zb5 _ (by omega), zb6 _ (by omega), lN_i, show (127 : Int32) = nI 127 from rfl, zz_andI, show ∀ a : Nat, a &&& 127 = a % 128 from fun a => Nat.and_two_pow_sub_one_eq_mod a 7]
  have d1 : (256 * (256 * (256 * (256 * (256 * (s5) + s4) + s3) + s2) + s1) + s0) / 256 = (256 * (256 * (256 * (256 * (s5) + s4) + s3) + s2) + s1) := by omega
  rw [d1]
  have d2 : (256 * (256 * (256 * (256 * (256 * (s5) + s4) + s3) + s2) + s1) + s0 + (256 * (256 * (256 * (256 * (s5) + s4) + s3) + s2) + s1)) / 65536 = (256 * (256 * (256 * (s5) + s4) + s3) + s2) + (256 * (256 * (s5) + s4) + s3) := by omega
  rw [d2]
  have d3 : (256 * (256 * (256 * (256 * (256 * (s5) + s4) + s3) + s2) + s1) + s0 + (256 * (256 * (256 * (256 * (s5) + s4) + s3) + s2) + s1) + ((256 * (256 * (256 * (s5) + s4) + s3) + s2) + (256 * (256 * (s5) + s4) + s3))) / 4294967296 = (256 * (s5) + s4) + s5 := by omega
  rw [d3]
  congr 1
  omega
theorem nI_m1 {g : Nat} (hg : g < 2 ^ 31) : ¬ nI g = -1 := by
  intro z
  have h : ¬ nI g < 0 := Int32.not_lt.mpr ((nI_leI (a := 0) (b := g) (by omega) hg).mpr (Nat.zero_le _))
  rw [z] at h
  exact h (by decide)
theorem muL_cong {f g : Nat → Int32} : ∀ t, (∀ j, j < t → f j = g j) → muL f t = muL g t := by
  intro t
  induction t with
  | zero => intro _; rfl
  | succ t ih =>
    intro h
    show (if f t = -1 then muL f t else muL f t ||| (1 <<< ((nI t).toInt64 &&& 63))) = (if g t = -1 then muL g t else muL g t ||| (1 <<< ((nI t).toInt64 &&& 63)))
    rw [h t (by omega), ih (fun j hj => h j (by omega))]
set_option maxRecDepth 100000 in
theorem sh_all : ∀ k : Fin 256, (nI k.val) <<< ((1 : Int32) &&& 31) &&& 255 = nI (2 * k.val % 256) := by decide +kernel
theorem stR_cost (v : SV) (t : Nat) (x : Int32) : (stR v t x).1 = if plcF v.kp (v.near t) 0 v.kc = -1 then (if kdI v t = 2 then (if x < 2 then 0 else if v.far t = roI v t then 0 else 2) else if x < wcI (v.near t) then 0 else wcI (v.near t)) else if x < 1 then 0 else 1 := by
  unfold stR srR spR
  split
  · split
    · split
      · rfl
      · split <;> rfl
    · split <;> rfl
  · split <;> rfl
theorem i_d0 {c d : Nat} {x : Int32} (hc : c < 2 ^ 31) (hd : 0 < d) (hd2 : d < 2 ^ 31) (e : x = nI d) : (nI c < x → (0 : Int32) = nI 0) ∧ (¬ nI c < x → d ≤ c) := by
  refine ⟨fun _ => rfl, fun h => ?_⟩
  rw [e] at h
  exact Nat.not_lt.mp (fun z => h ((nI_ltI hc hd2).mpr z))
theorem wc_nat (x : Int32) : ∃ d, 0 < d ∧ d < 10 ∧ wcI x = nI d := by
  unfold wcI
  split
  · exact ⟨2, by omega, by omega, rfl⟩
  · exact ⟨6, by omega, by omega, rfl⟩
theorem spR_d (v : SV) (t w : Nat) {cost : Int32} {c : Nat} (hc : c < 2 ^ 31) (hd : ∃ d, 0 < d ∧ d < 10 ∧ cost = nI d) : ∃ d, d ≤ c ∧ (spR v t w cost (nI c)).1 = nI d ∧ (d = 0 → (spR v t w cost (nI c)).2 = v) := by
  obtain ⟨d, d0, d1, e⟩ := hd
  unfold spR
  by_cases z : nI c < cost
  · rw [if_pos z]
    exact ⟨0, Nat.zero_le _, rfl, fun _ => rfl⟩
  · rw [if_neg z]
    exact ⟨d, (i_d0 hc d0 (by omega) e).2 z, e, fun k => by omega⟩
theorem stR_d (v : SV) (t : Nat) {c : Nat} (hc : c < 2 ^ 31) : ∃ d, d ≤ c ∧ (stR v t (nI c)).1 = nI d ∧ (d = 0 → (stR v t (nI c)).2 = v) := by
  unfold stR
  by_cases a : plcF v.kp (v.near t) 0 v.kc = -1
  · rw [if_pos a]
    by_cases b : kdI v t = 2
    · rw [if_pos b]
      unfold srR
      by_cases z : nI c < 2
      · rw [if_pos z]
        exact ⟨0, Nat.zero_le _, rfl, fun _ => rfl⟩
      · rw [if_neg z]
        by_cases y : v.far t = roI v t
        · rw [if_pos y]
          exact ⟨0, Nat.zero_le _, rfl, fun _ => rfl⟩
        · rw [if_neg y]
          exact ⟨2, (i_d0 (x := 2) (d := 2) hc (by omega) (by omega) rfl).2 z, rfl, fun k => by omega⟩
    · rw [if_neg b]
      exact spR_d v t 3 hc (wc_nat _)
  · rw [if_neg a]
    exact spR_d v t 1 hc ⟨1, by omega, by omega, rfl⟩
theorem saF_d (v : SV) {c : Nat} (hc : c < 2 ^ 31) : ∀ p, ∃ k, k ≤ c ∧ (saF v (nI c) p).1 = nI k ∧ (k = c → (saF v (nI c) p).2 = v ∧ ∀ q, q < p → (stR v (v.order q).toNatClampNeg (nI c)).1 = 0) := by
  intro p
  induction p with
  | zero => exact ⟨c, Nat.le_refl _, rfl, fun _ => ⟨rfl, fun q hq => absurd hq (Nat.not_lt_zero _)⟩⟩
  | succ p ih =>
    obtain ⟨k, k1, k2, k3⟩ := ih
    have e : saF v (nI c) (p + 1) = ((saF v (nI c) p).1 - (stR (saF v (nI c) p).2 ((saF v (nI c) p).2.order p).toNatClampNeg (saF v (nI c) p).1).1, (stR (saF v (nI c) p).2 ((saF v (nI c) p).2.order p).toNatClampNeg (saF v (nI c) p).1).2) := rfl
    rw [e, k2]
    obtain ⟨d, d1, d2, d3⟩ := stR_d (saF v (nI c) p).2 ((saF v (nI c) p).2.order p).toNatClampNeg (c := k) (by omega)
    refine ⟨k - d, by omega, ?_, fun z => ?_⟩
    · show nI k - _ = _
      rw [d2]
      exact pk_sub d1
    · have h1 : k = c := by omega
      have h2 : d = 0 := by omega
      obtain ⟨g1, g2⟩ := k3 h1
      refine ⟨(d3 h2).trans g1, fun q hq => ?_⟩
      rcases (show q < p ∨ q = p by omega) with y | y
      · exact g2 q y
      · rw [y]
        rw [g1, h1, h2] at d2
        exact d2
theorem bnF_0 (f : Nat → Int32) : ∀ n, bnF f n = 0 → ∀ t, t < n → f t = -1 := by
  intro n
  induction n with
  | zero => intro _ t ht; omega
  | succ n ih =>
    intro h t ht
    have h : bnF f n + (if f n = -1 then 0 else 1) = 0 := h
    by_cases z : f n = -1
    · rw [if_pos z] at h
      rcases (show t < n ∨ t = n by omega) with y | y
      · exact ih h t y
      · rw [y]; exact z
    · rw [if_neg z] at h
      omega
theorem muL_0 (f : Nat → Int32) : ∀ n, (∀ t, t < n → f t = -1) → muL f n = 0 := by
  intro n
  induction n with
  | zero => intro _; rfl
  | succ n ih =>
    intro h
    show (if f n = -1 then muL f n else muL f n ||| (1 <<< ((nI n).toInt64 &&& 63))) = 0
    rw [if_pos (h n (by omega))]
    exact ih (fun t ht => h t (by omega))
theorem bcL_00 : bcL 0 = 0 := by decide +kernel
theorem usF_bn (w : SV) : usF w 48 = 0 ↔ bnF w.since 48 = 0 := by
  refine ⟨fun h => ?_, fun h => ?_⟩
  · have k : bcL (usF w 48) = nI (bnF w.since 48) := by rw [us_mu, mu_bq _ 48 (Nat.le_refl _), bcL_bq]
    rw [h, bcL_00] at k
    have := bnF_le w.since 48
    exact ((nI_eq (a := 0) (by omega) (by omega)).mp k).symm
  · rw [us_mu]
    exact muL_0 _ 48 (bnF_0 _ 48 h)
theorem usF_ex (w : SV) (h : ¬ usF w 48 = 0) : ∃ t, t < 48 ∧ ¬ w.since t = -1 := by
  refine Classical.byContradiction (fun z => h ?_)
  rw [us_mu]
  exact muL_0 _ 48 (fun t ht => Classical.byContradiction (fun y => z ⟨t, ht, y⟩))
theorem alI_0 (w : SV) : alI w = 0 ↔ ¬ (w.wm = 0 ∧ usF w 48 = 0) := by
  unfold alI
  by_cases a : w.wm = 0
  · rw [if_pos a]
    by_cases b : usF w 48 = 0
    · rw [if_pos b]
      exact ⟨fun z => absurd z (by decide), fun z => absurd ⟨a, b⟩ z⟩
    · rw [if_neg b]
      exact ⟨fun _ z => b z.2, fun _ => rfl⟩
  · rw [if_neg a]
    exact ⟨fun _ z => a z.1, fun _ => rfl⟩
set_option maxRecDepth 100000 in
theorem bc_sh : ∀ k : Fin 256, bcI (nI k.val) < 4 → bcI ((nI k.val) <<< ((1 : Int32) &&& 31) &&& 255) < 4 := by decide +kernel
theorem kd_2 {w : SV} {t : Nat} : kdI w t = 2 ↔ ¬ bcI (w.ch t) < 4 := by
  unfold kdI
  by_cases a : bcI (w.ch t) < 4
  · rw [if_pos a]
    refine ⟨fun z => ?_, fun z => absurd a z⟩
    by_cases b : w.near t < 64
    · rw [if_pos b] at z
      exact absurd z (by decide)
    · rw [if_neg b] at z
      exact absurd z (by decide)
  · rw [if_neg a]
    exact ⟨fun _ => a, fun _ => rfl⟩
theorem i_00 (b : Int32) : b - nI 0 * 2 = b := by
  show b - 0 * 2 = b
  grind
theorem i_z2 : nI 0 * 2 = 0 := by decide
theorem hfF_0 (w : SV) : ∀ k i, hfF w i k = 0 → ∀ t, i ≤ t → t < i + k → ¬ kdI w t = 2 := by
  intro k
  induction k with
  | zero => intro i _ t h1 h2; omega
  | succ k ih =>
    intro i h t h1 h2
    have h : (if kdI w i = 2 then 1 else hfF w (i + 1) k) = 0 := h
    by_cases z : kdI w i = 2
    · rw [if_pos z] at h
      exact absurd h (by decide)
    · rw [if_neg z] at h
      rcases (show t = i ∨ i + 1 ≤ t by omega) with y | y
      · rw [y]; exact z
      · exact ih (i + 1) h t y (by omega)
