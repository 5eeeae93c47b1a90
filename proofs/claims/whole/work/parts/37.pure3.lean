/-! the set of unlike tiles, counted by the class, is the reference's count -/
def eqF (f : Nat → Int32) (t : Nat) : Nat := if f t = -1 then 0 else 1
theorem eqF_lt (f : Nat → Int32) (t : Nat) : eqF f t < 2 := by
  unfold eqF
  split <;> omega
def bqF (f : Nat → Int32) : Nat → Nat
  | 0 => 0
  | t + 1 => 2 ^ t * eqF f t + bqF f t
theorem bqF_lt (f : Nat → Int32) : ∀ t, bqF f t < 2 ^ t := by
  intro t
  induction t with
  | zero => exact Nat.zero_lt_one
  | succ t ih =>
    show 2 ^ t * eqF f t + bqF f t < 2 ^ (t + 1)
    have h := eqF_lt f t
    rw [Nat.pow_succ]
    rcases (show eqF f t = 0 ∨ eqF f t = 1 by omega) with q | q <;> rw [q] <;> omega
set_option maxRecDepth 100000 in
theorem shl_all : ∀ t : Fin 48, (1 : Int64) <<< ((nI t.val).toInt64 &&& 63) = lN (2 ^ t.val) := by decide +kernel
theorem mu_bq (f : Nat → Int32) : ∀ t, t ≤ 48 → muL f t = lN (bqF f t) := by
  intro t
  induction t with
  | zero => intro _; rfl
  | succ t ih =>
    intro ht
    show (if f t = -1 then muL f t else muL f t ||| (1 <<< ((nI t).toInt64 &&& 63))) = lN (2 ^ t * eqF f t + bqF f t)
    rw [ih (by omega)]
    unfold eqF
    by_cases h : f t = -1
    · rw [if_pos h, if_pos h, Nat.mul_zero, Nat.zero_add]
    · have e : (1 : Int64) <<< ((nI t).toInt64 &&& 63) = lN (2 ^ t) := shl_all ⟨t, by omega⟩
      rw [if_neg h, if_neg h, e, zz_orL, Nat.or_comm, Nat.two_pow_add_eq_or_of_lt (bqF_lt f t), Nat.mul_one]
def by8 (f : Nat → Int32) (s : Nat) : Nat := 1 * eqF f (s + 0) + 2 * eqF f (s + 1) + 4 * eqF f (s + 2) + 8 * eqF f (s + 3) + 16 * eqF f (s + 4) + 32 * eqF f (s + 5) + 64 * eqF f (s + 6) + 128 * eqF f (s + 7)
def sm8 (f : Nat → Int32) (s : Nat) : Nat := eqF f (s + 0) + eqF f (s + 1) + eqF f (s + 2) + eqF f (s + 3) + eqF f (s + 4) + eqF f (s + 5) + eqF f (s + 6) + eqF f (s + 7)
theorem bq_0 (f : Nat → Int32) : bqF f 8 = 1 * by8 f 0 + bqF f 0 := by
  have h : bqF f 8 = (2 ^ 7 * eqF f 7 + (2 ^ 6 * eqF f 6 + (2 ^ 5 * eqF f 5 + (2 ^ 4 * eqF f 4 + (2 ^ 3 * eqF f 3 + (2 ^ 2 * eqF f 2 + (2 ^ 1 * eqF f 1 + (2 ^ 0 * eqF f 0 + bqF f 0)))))))) := rfl
  rw [h]
  unfold by8
  simp only [Nat.reducePow, Nat.reduceAdd, Nat.zero_add, Nat.add_zero]
  omega
theorem bn_0 (f : Nat → Int32) : bnF f 8 = bnF f 0 + sm8 f 0 := by
  have h : bnF f 8 = ((((((((bnF f 0 + eqF f 0) + eqF f 1) + eqF f 2) + eqF f 3) + eqF f 4) + eqF f 5) + eqF f 6) + eqF f 7) := rfl
  rw [h]
  unfold sm8
  simp only [Nat.reduceAdd, Nat.zero_add, Nat.add_zero]
  omega
theorem bq_8 (f : Nat → Int32) : bqF f 16 = 256 * by8 f 8 + bqF f 8 := by
  have h : bqF f 16 = (2 ^ 15 * eqF f 15 + (2 ^ 14 * eqF f 14 + (2 ^ 13 * eqF f 13 + (2 ^ 12 * eqF f 12 + (2 ^ 11 * eqF f 11 + (2 ^ 10 * eqF f 10 + (2 ^ 9 * eqF f 9 + (2 ^ 8 * eqF f 8 + bqF f 8)))))))) := rfl
  rw [h]
  unfold by8
  simp only [Nat.reducePow, Nat.reduceAdd, Nat.zero_add, Nat.add_zero]
  omega
theorem bn_8 (f : Nat → Int32) : bnF f 16 = bnF f 8 + sm8 f 8 := by
  have h : bnF f 16 = ((((((((bnF f 8 + eqF f 8) + eqF f 9) + eqF f 10) + eqF f 11) + eqF f 12) + eqF f 13) + eqF f 14) + eqF f 15) := rfl
  rw [h]
  unfold sm8
  simp only [Nat.reduceAdd, Nat.zero_add, Nat.add_zero]
  omega
theorem bq_16 (f : Nat → Int32) : bqF f 24 = 65536 * by8 f 16 + bqF f 16 := by
  have h : bqF f 24 = (2 ^ 23 * eqF f 23 + (2 ^ 22 * eqF f 22 + (2 ^ 21 * eqF f 21 + (2 ^ 20 * eqF f 20 + (2 ^ 19 * eqF f 19 + (2 ^ 18 * eqF f 18 + (2 ^ 17 * eqF f 17 + (2 ^ 16 * eqF f 16 + bqF f 16)))))))) := rfl
  rw [h]
  unfold by8
  simp only [Nat.reducePow, Nat.reduceAdd, Nat.zero_add, Nat.add_zero]
  omega
theorem bn_16 (f : Nat → Int32) : bnF f 24 = bnF f 16 + sm8 f 16 := by
  have h : bnF f 24 = ((((((((bnF f 16 + eqF f 16) + eqF f 17) + eqF f 18) + eqF f 19) + eqF f 20) + eqF f 21) + eqF f 22) + eqF f 23) := rfl
  rw [h]
  unfold sm8
  simp only [Nat.reduceAdd, Nat.zero_add, Nat.add_zero]
  omega
theorem bq_24 (f : Nat → Int32) : bqF f 32 = 16777216 * by8 f 24 + bqF f 24 := by
  have h : bqF f 32 = (2 ^ 31 * eqF f 31 + (2 ^ 30 * eqF f 30 + (2 ^ 29 * eqF f 29 + (2 ^ 28 * eqF f 28 + (2 ^ 27 * eqF f 27 + (2 ^ 26 * eqF f 26 + (2 ^ 25 * eqF f 25 + (2 ^ 24 * eqF f 24 + bqF f 24)))))))) := rfl
  rw [h]
  unfold by8
  simp only [Nat.reducePow, Nat.reduceAdd, Nat.zero_add, Nat.add_zero]
  omega
theorem bn_24 (f : Nat → Int32) : bnF f 32 = bnF f 24 + sm8 f 24 := by
  have h : bnF f 32 = ((((((((bnF f 24 + eqF f 24) + eqF f 25) + eqF f 26) + eqF f 27) + eqF f 28) + eqF f 29) + eqF f 30) + eqF f 31) := rfl
  rw [h]
  unfold sm8
  simp only [Nat.reduceAdd, Nat.zero_add, Nat.add_zero]
  omega
theorem bq_32 (f : Nat → Int32) : bqF f 40 = 4294967296 * by8 f 32 + bqF f 32 := by
  have h : bqF f 40 = (2 ^ 39 * eqF f 39 + (2 ^ 38 * eqF f 38 + (2 ^ 37 * eqF f 37 + (2 ^ 36 * eqF f 36 + (2 ^ 35 * eqF f 35 + (2 ^ 34 * eqF f 34 + (2 ^ 33 * eqF f 33 + (2 ^ 32 * eqF f 32 + bqF f 32)))))))) := rfl
  rw [h]
  unfold by8
  simp only [Nat.reducePow, Nat.reduceAdd, Nat.zero_add, Nat.add_zero]
  omega
theorem bn_32 (f : Nat → Int32) : bnF f 40 = bnF f 32 + sm8 f 32 := by
  have h : bnF f 40 = ((((((((bnF f 32 + eqF f 32) + eqF f 33) + eqF f 34) + eqF f 35) + eqF f 36) + eqF f 37) + eqF f 38) + eqF f 39) := rfl
  rw [h]
  unfold sm8
  simp only [Nat.reduceAdd, Nat.zero_add, Nat.add_zero]
  omega
theorem bq_40 (f : Nat → Int32) : bqF f 48 = 1099511627776 * by8 f 40 + bqF f 40 := by
  have h : bqF f 48 = (2 ^ 47 * eqF f 47 + (2 ^ 46 * eqF f 46 + (2 ^ 45 * eqF f 45 + (2 ^ 44 * eqF f 44 + (2 ^ 43 * eqF f 43 + (2 ^ 42 * eqF f 42 + (2 ^ 41 * eqF f 41 + (2 ^ 40 * eqF f 40 + bqF f 40)))))))) := rfl
  rw [h]
  unfold by8
  simp only [Nat.reducePow, Nat.reduceAdd, Nat.zero_add, Nat.add_zero]
  omega
theorem bn_40 (f : Nat → Int32) : bnF f 48 = bnF f 40 + sm8 f 40 := by
  have h : bnF f 48 = ((((((((bnF f 40 + eqF f 40) + eqF f 41) + eqF f 42) + eqF f 43) + eqF f 44) + eqF f 45) + eqF f 46) + eqF f 47) := rfl
  rw [h]
  unfold sm8
  simp only [Nat.reduceAdd, Nat.zero_add, Nat.add_zero]
  omega
theorem bqF_48 (f : Nat → Int32) : bqF f 48 = 256 * (256 * (256 * (256 * (256 * (by8 f 40) + by8 f 32) + by8 f 24) + by8 f 16) + by8 f 8) + by8 f 0 := by
  have h : bqF f 0 = 0 := rfl
  rw [bq_40, bq_32, bq_24, bq_16, bq_8, bq_0, h]
  omega
theorem bnF_48 (f : Nat → Int32) : bnF f 48 = sm8 f 0 + sm8 f 8 + sm8 f 16 + sm8 f 24 + sm8 f 32 + sm8 f 40 := by
  have h : bnF f 0 = 0 := rfl
  rw [bn_40, bn_32, bn_24, bn_16, bn_8, bn_0, h, Nat.zero_add]
set_option maxRecDepth 100000 in
theorem zB_all : ∀ x0 x1 x2 x3 x4 x5 x6 x7 : Fin 2, zB (1 * x0.val + 2 * x1.val + 4 * x2.val + 8 * x3.val + 16 * x4.val + 32 * x5.val + 64 * x6.val + 128 * x7.val) = x0.val + x1.val + x2.val + x3.val + x4.val + x5.val + x6.val + x7.val := by decide +kernel
theorem zB_by (f : Nat → Int32) (s : Nat) : zB (by8 f s) = sm8 f s := zB_all ⟨eqF f (s + 0), eqF_lt _ _⟩ ⟨eqF f (s + 1), eqF_lt _ _⟩ ⟨eqF f (s + 2), eqF_lt _ _⟩ ⟨eqF f (s + 3), eqF_lt _ _⟩ ⟨eqF f (s + 4), eqF_lt _ _⟩ ⟨eqF f (s + 5), eqF_lt _ _⟩ ⟨eqF f (s + 6), eqF_lt _ _⟩ ⟨eqF f (s + 7), eqF_lt _ _⟩
theorem by8_lt (f : Nat → Int32) (s : Nat) : by8 f s < 256 := by
  have h0 := eqF_lt f (s + 0)
  have h1 := eqF_lt f (s + 1)
  have h2 := eqF_lt f (s + 2)
  have h3 := eqF_lt f (s + 3)
  have h4 := eqF_lt f (s + 4)
  have h5 := eqF_lt f (s + 5)
  have h6 := eqF_lt f (s + 6)
  have h7 := eqF_lt f (s + 7)
  unfold by8
  omega
theorem sm8_le (f : Nat → Int32) (s : Nat) : sm8 f s ≤ 8 := by
  have h0 := eqF_lt f (s + 0)
  have h1 := eqF_lt f (s + 1)
  have h2 := eqF_lt f (s + 2)
  have h3 := eqF_lt f (s + 3)
  have h4 := eqF_lt f (s + 4)
  have h5 := eqF_lt f (s + 5)
  have h6 := eqF_lt f (s + 6)
  have h7 := eqF_lt f (s + 7)
  unfold sm8
  omega
set_option maxRecDepth 100000 in
theorem zall (a0 a1 a2 a3 a4 a5 : Nat) (q0 : a0 < 256) (q1 : a1 < 256) (q2 : a2 < 256) (q3 : a3 < 256) (q4 : a4 < 256) (q5 : a5 < 256) : zS 6148914691236517205 3689348814741910323 1085102592571150095 (256 * (256 * (256 * (256 * (256 * (a5) + a4) + a3) + a2) + a1) + a0) = 256 * (256 * (256 * (256 * (256 * (zB a5) + zB a4) + zB a3) + zB a2) + zB a1) + zB a0 := by
  have h5 := zstep (21845) (13107) (3855) (0) a5 q5 (by rw [(zS0 21845 13107 3855).2]; omega)
  have h4 := zstep (256 * (21845) + 85) (256 * (13107) + 51) (256 * (3855) + 15) (256 * (0) + a5) a4 q4 h5.2
  have h3 := zstep (256 * (256 * (21845) + 85) + 85) (256 * (256 * (13107) + 51) + 51) (256 * (256 * (3855) + 15) + 15) (256 * (256 * (0) + a5) + a4) a3 q3 h4.2
  have h2 := zstep (256 * (256 * (256 * (21845) + 85) + 85) + 85) (256 * (256 * (256 * (13107) + 51) + 51) + 51) (256 * (256 * (256 * (3855) + 15) + 15) + 15) (256 * (256 * (256 * (0) + a5) + a4) + a3) a2 q2 h3.2
  have h1 := zstep (256 * (256 * (256 * (256 * (21845) + 85) + 85) + 85) + 85) (256 * (256 * (256 * (256 * (13107) + 51) + 51) + 51) + 51) (256 * (256 * (256 * (256 * (3855) + 15) + 15) + 15) + 15) (256 * (256 * (256 * (256 * (0) + a5) + a4) + a3) + a2) a1 q1 h2.2
  have h0 := zstep (256 * (256 * (256 * (256 * (256 * (21845) + 85) + 85) + 85) + 85) + 85) (256 * (256 * (256 * (256 * (256 * (13107) + 51) + 51) + 51) + 51) + 51) (256 * (256 * (256 * (256 * (256 * (3855) + 15) + 15) + 15) + 15) + 15) (256 * (256 * (256 * (256 * (256 * (0) + a5) + a4) + a3) + a2) + a1) a0 q0 h1.2
  have e0 : 256 * 0 + a5 = a5 := by omega
  have e := h0.1
  rw [h1.1, h2.1, h3.1, h4.1, h5.1, (zS0 21845 13107 3855).1, e0] at e
  have e9 : 256 * 0 + zB a5 = zB a5 := by omega
  rw [e9] at e
  exact e
theorem zb1 (x : Nat) (hx : x < 2 ^ 60) : bl1 (lN x) = lN (zs1 6148914691236517205 x) := by
  unfold bl1 zs1
  rw [zz_ushL x 1 2 1 (by decide) rfl (by omega), show (6148914691236517205 : Int64) = lN 6148914691236517205 from rfl, zz_andL]
  exact lN_sub (Nat.le_trans Nat.and_le_left (Nat.div_le_self _ _))
theorem zb2 (x : Nat) (hx : x < 2 ^ 60) : bl2 (lN x) = lN (zs2 3689348814741910323 x) := by
  unfold bl2 zs2
  rw [zz_ushL x 2 4 2 (by decide) rfl (by omega), show (3689348814741910323 : Int64) = lN 3689348814741910323 from rfl, zz_andL, zz_andL, lN_add]
theorem zb3 (x : Nat) (hx : x < 2 ^ 60) : bl3 (lN x) = lN (zs3 1085102592571150095 x) := by
  unfold bl3 zs3
  rw [zz_ushL x 4 16 4 (by decide) rfl (by omega), lN_add, show (1085102592571150095 : Int64) = lN 1085102592571150095 from rfl, zz_andL]
theorem zb4 (x : Nat) (hx : x < 2 ^ 60) : bl4 (lN x) = lN (x + x / 256) := by
  unfold bl4
  rw [zz_ushL x 8 256 8 (by decide) rfl (by omega), lN_add]
theorem zb5 (x : Nat) (hx : x < 2 ^ 60) : bl5 (lN x) = lN (x + x / 65536) := by
  unfold bl5
  rw [zz_ushL x 16 65536 16 (by decide) rfl (by omega), lN_add]
theorem zb6 (x : Nat) (hx : x < 2 ^ 60) : bl6 (lN x) = lN (x + x / 4294967296) := by
  unfold bl6
  rw [zz_ushL x 32 4294967296 32 (by decide) rfl (by omega), lN_add]
theorem bcL_bq (f : Nat → Int32) : bcL (lN (bqF f 48)) = nI (bnF f 48) := by
  have hn : bqF f 48 < 2 ^ 48 := bqF_lt f 48
  have l1 : zs1 6148914691236517205 (bqF f 48) ≤ bqF f 48 := Nat.sub_le _ _
  have l2 : zs2 3689348814741910323 (zs1 6148914691236517205 (bqF f 48)) ≤ zs1 6148914691236517205 (bqF f 48) + zs1 6148914691236517205 (bqF f 48) / 4 := Nat.add_le_add Nat.and_le_left Nat.and_le_left
  have hS : zS 6148914691236517205 3689348814741910323 1085102592571150095 (bqF f 48) = 256 * (256 * (256 * (256 * (256 * (sm8 f 40) + sm8 f 32) + sm8 f 24) + sm8 f 16) + sm8 f 8) + sm8 f 0 := by
    rw [bqF_48, zall _ _ _ _ _ _ (by8_lt f 0) (by8_lt f 8) (by8_lt f 16) (by8_lt f 24) (by8_lt f 32) (by8_lt f 40), zB_by, zB_by, zB_by, zB_by, zB_by, zB_by]
  have hS : zs3 1085102592571150095 (zs2 3689348814741910323 (zs1 6148914691236517205 (bqF f 48))) = 256 * (256 * (256 * (256 * (256 * (sm8 f 40) + sm8 f 32) + sm8 f 24) + sm8 f 16) + sm8 f 8) + sm8 f 0 := hS
  have k0 := sm8_le f 0
  have k1 := sm8_le f 8
  have k2 := sm8_le f 16
  have k3 := sm8_le f 24
  have k4 := sm8_le f 32
  have k5 := sm8_le f 40
  unfold bcL
  rw [zb1 _ (by omega), zb2 _ (by omega), zb3 _ (by omega), hS, bnF_48]
  generalize sm8 f 0 = s0 at *
  generalize sm8 f 8 = s1 at *
  generalize sm8 f 16 = s2 at *
  generalize sm8 f 24 = s3 at *
  generalize sm8 f 32 = s4 at *
  generalize sm8 f 40 = s5 at *
  rw [zb4 _ (by omega), zb5 _ (by omega), zb6 _ (by omega), lN_i, show (127 : Int32) = nI 127 from rfl, zz_andI, show ∀ a : Nat, a &&& 127 = a % 128 from fun a => Nat.and_two_pow_sub_one_eq_mod a 7]
  have d1 : (256 * (256 * (256 * (256 * (256 * (s5) + s4) + s3) + s2) + s1) + s0) / 256 = (256 * (256 * (256 * (256 * (s5) + s4) + s3) + s2) + s1) := by omega
  rw [d1]
  have d2 : (256 * (256 * (256 * (256 * (256 * (s5) + s4) + s3) + s2) + s1) + s0 + (256 * (256 * (256 * (256 * (s5) + s4) + s3) + s2) + s1)) / 65536 = (256 * (256 * (256 * (s5) + s4) + s3) + s2) + (256 * (256 * (s5) + s4) + s3) := by omega
  rw [d2]
  have d3 : (256 * (256 * (256 * (256 * (256 * (s5) + s4) + s3) + s2) + s1) + s0 + (256 * (256 * (256 * (256 * (s5) + s4) + s3) + s2) + s1) + ((256 * (256 * (256 * (s5) + s4) + s3) + s2) + (256 * (256 * (s5) + s4) + s3))) / 4294967296 = (256 * (s5) + s4) + s5 := by omega
  rw [d3]
  congr 1
  omega
theorem bc_mu {v : SV} {m : MV} (h : v.since = m.since) : bcL (usF v 48) = muF m 48 := by
  rw [us_mu, mu_bq _ 48 (Nat.le_refl _), bcL_bq, mu_bn, h]
