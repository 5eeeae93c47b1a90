/-! both sides' pictures, held against one another (no machine here): sets, counts, kinds, worths -/
theorem us_mu (v : SV) : ∀ t, usF v t = muL v.since t := by
  intro t
  induction t with
  | zero => rfl
  | succ t ih =>
    show (if v.since t = -1 then usF v t else usF v t ||| (1 <<< ((nI t).toInt64 &&& 63))) = (if v.since t = -1 then muL v.since t else muL v.since t ||| (1 <<< ((nI t).toInt64 &&& 63)))
    rw [ih]
theorem cr_mc (v : SV) : ∀ t, crF v t = mcR v.far t := by
  intro t
  induction t with
  | zero => rfl
  | succ t ih =>
    show (if v.far t < 1000 then crF v t else crF v t + 1) = (if v.far t < 1000 then mcR v.far t else mcR v.far t + 1)
    rw [ih]
theorem an_man (v : SV) : ∀ t, anF v t = manF v.near t := by
  intro t
  induction t with
  | zero => rfl
  | succ t ih =>
    show anF v t + wcI (v.near t) = manF v.near t + wcI (v.near t)
    rw [ih]
set_option maxRecDepth 100000 in
theorem kd_all : ∀ k : Fin 256, bcI (nI k.val) = mkS (nI k.val) 8 := by decide +kernel
theorem i4_le {x : Int32} : x < 4 ↔ x ≤ 3 := by
  rw [Int32.lt_iff_toInt_lt, Int32.le_iff_toInt_le]
  show x.toInt < 4 ↔ x.toInt ≤ 3
  omega
theorem kd_eq {v : SV} {m : MV} {t : Nat} (h1 : v.ch t = m.ch t) (h2 : v.near t = m.near t) (h3 : ∃ k, k < 256 ∧ m.ch t = nI k) : kdI v t = mkI m t := by
  obtain ⟨k, hk, e⟩ := h3
  have q : bcI (nI k) = mkS (nI k) 8 := kd_all ⟨k, hk⟩
  unfold kdI mkI
  rw [h1, h2, e, q]
  by_cases z : mkS (nI k) 8 ≤ 3
  · rw [if_pos z, if_pos (i4_le.mpr z)]
  · rw [if_neg z, if_neg (fun y => z (i4_le.mp y))]
set_option maxRecDepth 100000 in
theorem lk_all : ∀ a b : Fin 48, lkI a.val b.val = mlI a.val b.val := by decide +kernel
theorem wo_eq {v : SV} {m : MV} {t : Nat} (ht : t < 48) (hl : m.look < 48) (h1 : v.la = m.look) (h2 : v.now = m.time) (h3 : v.since t = m.since t) : woI v t = mwF m t := by
  have e : lkI m.look t = mlI m.look t := lk_all ⟨m.look, hl⟩ ⟨t, ht⟩
  unfold woI mwF
  rw [h1, h2, h3, e]
  by_cases z : mlI m.look t = 0
  · rw [if_pos z, if_pos z]
    exact (Int32.add_zero _).symm
  · rw [if_neg z, if_neg z]
/-- how many tiles are unlike -/
def bnF (f : Nat → Int32) : Nat → Nat
  | 0 => 0
  | t + 1 => bnF f t + (if f t = -1 then 0 else 1)
theorem bnF_le (f : Nat → Int32) : ∀ t, bnF f t ≤ t := by
  intro t
  induction t with
  | zero => exact Nat.le_refl _
  | succ t ih =>
    show bnF f t + (if f t = -1 then 0 else 1) ≤ t + 1
    split <;> omega
theorem mu_bn (m : MV) : ∀ t, muF m t = nI (bnF m.since t) := by
  intro t
  induction t with
  | zero => rfl
  | succ t ih =>
    show muF m t + (if m.since t = -1 then 0 else 1) = nI (bnF m.since t + (if m.since t = -1 then 0 else 1))
    rw [ih]
    by_cases h : m.since t = -1
    · rw [if_pos h, if_pos h]
      exact Int32.add_zero _
    · rw [if_neg h, if_neg h]
      exact nI_1 _
def bsF (f : Nat → Int32) : Nat → Nat
  | 0 => 0
  | t + 1 => bsF f t + (if f t = -1 then 0 else 2 ^ t)
theorem bsF_lt (f : Nat → Int32) : ∀ t, bsF f t < 2 ^ t := by
  intro t
  induction t with
  | zero => exact Nat.zero_lt_one
  | succ t ih =>
    show bsF f t + (if f t = -1 then 0 else 2 ^ t) < 2 ^ (t + 1)
    rw [Nat.pow_succ]
    split <;> omega
