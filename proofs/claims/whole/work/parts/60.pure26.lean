/-! stepsToGo, on both sides -/
/-- alike but for what was used -/
def Alu (w : SV) (m : MV) : Prop := Alk w (m.usedS w.us)
theorem alu_of {V : SV} {M : MV} {y z : Int32} (h : Alk V ((M.usedS y).usedS z)) : Alu V M := by
  have e : V.us = z := h.2.2.2.2.2.2.2.2.2.2.2.2.1
  unfold Alu
  rw [e]
  exact h
theorem ivm_us {M : MV} {y : Int32} {K : Nat} (h : Ivm (M.usedS y) K) : Ivm M K := h
theorem alu_step {w : SV} {m : MV} {K : Nat} (h : Alu w m) (hi : Ivm m K) (hK : K + 1 < 2 ^ 31) (b : Int32) : Alu (psV w b) (mpV m b) ∧ Ivm (mpV m b) (K + 1) := by
  have hi2 : Ivm (m.usedS w.us) K := hi
  obtain ⟨-, p2, p3, -⟩ := alk_step h hi2 hK b
  rw [mpV_us] at p2 p3
  exact ⟨alu_of p2, ivm_us p3⟩
theorem alu_al {w : SV} {m : MV} (h : Alu w m) : alI w = 0 ↔ ¬ (m.moves = 0 ∧ muF m 48 ≤ 0) := by
  have e1 : w.wm = m.moves := h.2.2.2.2.2.1
  have e2 : muF m 48 = nI (bnF m.since 48) := mu_bn m 48
  have e3 : ∀ t, t < 48 → w.since t = m.since t := h.2.2.1
  have e4 : usF w 48 = 0 ↔ bnF m.since 48 = 0 := by
    have k : usF w 48 = muL m.since 48 := (us_mu w 48).trans (muL_cong 48 e3)
    rw [k]
    have q : muL m.since 48 = 0 ↔ bnF m.since 48 = 0 := by
      refine ⟨fun z => ?_, fun z => muL_0 _ 48 (bnF_0 _ 48 z)⟩
      have y : bcL (muL m.since 48) = nI (bnF m.since 48) := by rw [mu_bq _ 48 (Nat.le_refl _), bcL_bq]
      rw [z, bcL_00] at y
      have := bnF_le m.since 48
      exact ((nI_eq (a := 0) (by omega) (by omega)).mp y).symm
    exact q
  have e5 : muF m 48 ≤ 0 ↔ bnF m.since 48 = 0 := by
    rw [e2]
    have := bnF_le m.since 48
    have k : nI (bnF m.since 48) ≤ nI 0 ↔ bnF m.since 48 ≤ 0 := nI_leI (by omega) (by omega)
    have k : nI (bnF m.since 48) ≤ 0 ↔ bnF m.since 48 ≤ 0 := k
    rw [k]
    omega
  rw [alI_0, e1, e4, e5]
theorem alu_ch {w : SV} {m : MV} (h : Alu w m) : ∀ t, t < 48 → ∃ k, k < 256 ∧ w.ch t = nI k := by
  intro t ht
  obtain ⟨k, hk, e⟩ := h.2.2.2.2.1 t ht
  have e2 : w.ch t = m.ch t := h.2.2.2.1 t ht
  exact ⟨k, hk, e2.trans e⟩
theorem stk_far {c : Nat} (hc : c ≤ 300) : ∀ (k n K : Nat) (w : SV) (m : MV), n + k = 101 → Alu w m → Ivm m K → K + k < 2 ^ 31 → Stk w c → 100 < (mgL (nI c) (k + 1) n m).1 := by
  intro k
  induction k with
  | zero =>
    intro n K w m hn _ _ _ _
    show 100 < (if 100 < n then (n, m) else if m.moves = 0 ∧ muF m 48 ≤ 0 then (n, m) else mgL (nI c) 0 (n + 1) (mpV m (nI c))).1
    rw [if_pos (show 100 < n by omega)]
    show 100 < n
    omega
  | succ k ih =>
    intro n K w m hn h hi hK hs
    show 100 < (if 100 < n then (n, m) else if m.moves = 0 ∧ muF m 48 ≤ 0 then (n, m) else mgL (nI c) (k + 1) (n + 1) (mpV m (nI c))).1
    rw [if_neg (show ¬ 100 < n by omega), if_neg ((alu_al h).mp (stk_al hs))]
    obtain ⟨a1, a2⟩ := alu_step h hi (by omega) (nI c)
    exact ih (n + 1) (K + 1) (psV w (nI c)) (mpV m (nI c)) (by omega) a1 a2 (by omega) (stk_next (by omega) (alu_ch h) hs)
theorem stg_all {c : Nat} (hc : c ≤ 300) : ∀ (k n K : Nat) (w : SV) (m : MV), n + k = 100 → Alu w m → Ivm m K → K + k + 2 < 2 ^ 31 → (stgF (nI c) w n k).1 = if (mgL (nI c) (k + 2) n m).1 ≤ 100 then nI (mgL (nI c) (k + 2) n m).1 else -1 := by
  intro k
  induction k with
  | zero =>
    intro n K w m hn h hi hK
    have e1 : (stgF (nI c) w n 0).1 = if alI w = 0 then -1 else nI n := rfl
    have e2 : mgL (nI c) (0 + 2) n m = if 100 < n then (n, m) else if m.moves = 0 ∧ muF m 48 ≤ 0 then (n, m) else mgL (nI c) 1 (n + 1) (mpV m (nI c)) := rfl
    rw [e1, e2, if_neg (show ¬ 100 < n by omega)]
    by_cases z : m.moves = 0 ∧ muF m 48 ≤ 0
    · rw [if_pos z, if_neg (fun y => (alu_al h).mp y z), if_pos (show (n, m).1 ≤ 100 by show n ≤ 100; omega)]
    · rw [if_neg z, if_pos ((alu_al h).mpr z)]
      have e3 : mgL (nI c) 1 (n + 1) (mpV m (nI c)) = (n + 1, mpV m (nI c)) := if_pos (show 100 < n + 1 by omega)
      rw [e3, if_neg (show ¬ (n + 1, mpV m (nI c)).1 ≤ 100 by show ¬ n + 1 ≤ 100; omega)]
  | succ k ih =>
    intro n K w m hn h hi hK
    have e1 : (stgF (nI c) w n (k + 1)).1 = (if alI w = 0 then (if (psA w (nI c)).1 = 0 ∧ hfF w 0 48 = 0 then ((-1 : Int32), psV w (nI c)) else stgF (nI c) (psV w (nI c)) (n + 1) k) else (nI n, w)).1 := rfl
    have e2 : mgL (nI c) (k + 1 + 2) n m = if 100 < n then (n, m) else if m.moves = 0 ∧ muF m 48 ≤ 0 then (n, m) else mgL (nI c) (k + 2) (n + 1) (mpV m (nI c)) := rfl
    rw [e1, e2, if_neg (show ¬ 100 < n by omega)]
    by_cases z : m.moves = 0 ∧ muF m 48 ≤ 0
    · rw [if_pos z, if_neg (fun y => (alu_al h).mp y z), if_pos (show (n, m).1 ≤ 100 by show n ≤ 100; omega)]
    · have za := (alu_al h).mpr z
      rw [if_neg z, if_pos za]
      obtain ⟨a1, a2⟩ := alu_step h hi (by omega) (nI c)
      by_cases y : (psA w (nI c)).1 = 0 ∧ hfF w 0 48 = 0
      · rw [if_pos y]
        have hw : w.wm ≤ 4 := by
          have q1 : w.wm = m.moves := h.2.2.2.2.2.1
          have q2 : m.moves ≤ 4 := h.2.2.2.2.2.2.1
          omega
        have s := stk_next (by omega) (alu_ch h) (stk_from hc hw za y.1 y.2)
        have f := stk_far hc (k + 1) (n + 1) (K + 1) (psV w (nI c)) (mpV m (nI c)) (by omega) a1 a2 (by omega) s
        rw [if_neg (show ¬ (mgL (nI c) (k + 2) (n + 1) (mpV m (nI c))).1 ≤ 100 from fun q => by have f : 100 < (mgL (nI c) (k + 2) (n + 1) (mpV m (nI c))).1 := f; omega)]
      · rw [if_neg y]
        exact ih (n + 1) (K + 1) (psV w (nI c)) (mpV m (nI c)) (by omega) a1 a2 (by omega)
theorem alk_co {v : SV} {m : MV} (u : SV) (h : Alk v m) : Alk (coV u v) m := by
  obtain ⟨a1, a2, a3, a4, a5, a6, a7, a8, a9, a10, a11, a12, a13, a14, a15, a16⟩ := h
  refine ⟨fun t ht => ?_, fun t ht => ?_, fun t ht => ?_, fun t ht => ?_, a5, a6, a7, fun j hj => ?_, a9, a10, fun j hj => ?_, fun j hj => ?_, a13, a14, a15, a16⟩
  · show fz_to v.near u.near 48 t = _
    rw [fz_to_lt ht]; exact a1 t ht
  · show fz_to v.far u.far 48 t = _
    rw [fz_to_lt ht]; exact a2 t ht
  · show fz_to v.since u.since 48 t = _
    rw [fz_to_lt ht]; exact a3 t ht
  · show fz_to v.ch u.ch 48 t = _
    rw [fz_to_lt ht]; exact a4 t ht
  · show MM1 m j (if j < v.wm then v.mv j else u.mv j)
    rw [if_pos (by omega)]
    exact a8 j hj
  · show fz_to v.kp u.kp 8 j = _
    rw [fz_to_lt (by omega)]; exact a11 j hj
  · show fz_to v.sc u.sc 4 j = _
    rw [fz_to_lt hj]; exact a12 j hj
/-- what the reference keeps, place by place -/
theorem kpF_at (kept f : Nat → Int32) (a : Nat) : ∀ n j, (a ≤ j ∧ j < a + n → kpF kept f a n j = f (j - a)) ∧ (¬ (a ≤ j ∧ j < a + n) → kpF kept f a n j = kept j) := by
  intro n
  induction n with
  | zero => intro j; exact ⟨fun h => by omega, fun _ => rfl⟩
  | succ n ih =>
    intro j
    have e : kpF kept f a (n + 1) = upd (kpF kept f a n) (a + n) (f n) := rfl
    obtain ⟨i1, i2⟩ := ih j
    rw [e]
    by_cases z : j = a + n
    · rw [z, pk_us]
      exact ⟨fun _ => by rw [show a + n - a = n by omega], fun h => absurd ⟨by omega, by omega⟩ h⟩
    · rw [pk_un z]
      exact ⟨fun h => i1 (by omega), fun h => i2 (by omega)⟩
