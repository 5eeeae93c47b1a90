def hdJ (m : MV) : Nat → Nat := mkM ((m.mF 0).toNatClampNeg % 8) ((m.mF 0).toNatClampNeg / 8) (m.mW 0).toNatClampNeg (m.mH 0).toNatClampNeg ((m.mT 0).toNatClampNeg % 8) ((m.mT 0).toNatClampNeg / 8)
def mtW (m : MV) : MV := mtV m (hdJ m)
def MM1 (m : MV) (j : Nat) (h : Nat → Nat) : Prop := m.mF j = nI (8 * h 1 + h 0) ∧ m.mT j = nI (8 * h 5 + h 4) ∧ m.mW j = nI (h 2) ∧ m.mH j = nI (h 3) ∧ MOK h ∧ 1 ≤ h 2
def MOKs (m : MV) : Prop := m.moves ≤ 4 ∧ m.pics ≤ 8 ∧ ∀ j, j < m.moves → ∃ h, MM1 m j h
theorem hdJ_of {m : MV} {h : Nat → Nat} (k : MM1 m 0 h) : MM1 m 0 (hdJ m) ∧ ∀ i, i < 6 → hdJ m i = h i := by
  obtain ⟨k1, k2, k3, k4, ⟨q1, q2, q3, q4⟩, k6⟩ := k
  have b1 : 8 * h 1 + h 0 < 2 ^ 31 := by omega
  have b2 : 8 * h 5 + h 4 < 2 ^ 31 := by omega
  have e0 : hdJ m 0 = h 0 := by
    show (m.mF 0).toNatClampNeg % 8 = h 0
    rw [k1, nI_clamp b1]; omega
  have e1 : hdJ m 1 = h 1 := by
    show (m.mF 0).toNatClampNeg / 8 = h 1
    rw [k1, nI_clamp b1]; omega
  have e2 : hdJ m 2 = h 2 := by
    show (m.mW 0).toNatClampNeg = h 2
    rw [k3, nI_clamp (by omega)]
  have e3 : hdJ m 3 = h 3 := by
    show (m.mH 0).toNatClampNeg = h 3
    rw [k4, nI_clamp (by omega)]
  have e4 : hdJ m 4 = h 4 := by
    show (m.mT 0).toNatClampNeg % 8 = h 4
    rw [k2, nI_clamp b2]; omega
  have e5 : hdJ m 5 = h 5 := by
    show (m.mT 0).toNatClampNeg / 8 = h 5
    rw [k2, nI_clamp b2]; omega
  refine ⟨⟨by rw [e1, e0]; exact k1, by rw [e5, e4]; exact k2, by rw [e2]; exact k3, by rw [e3]; exact k4, ⟨by rw [e0, e2]; exact q1, by rw [e1, e3]; exact q2, by rw [e4, e2]; exact q3, by rw [e5, e3]; exact q4⟩, by rw [e2]; exact k6⟩, fun i hi => ?_⟩
  rcases (show i = 0 ∨ i = 1 ∨ i = 2 ∨ i = 3 ∨ i = 4 ∨ i = 5 by omega) with rfl | rfl | rfl | rfl | rfl | rfl
  · exact e0
  · exact e1
  · exact e2
  · exact e3
  · exact e4
  · exact e5
theorem mtl_pics (m : MV) (h : Nat → Nat) : ∀ k, (mtl m h k).pics = m.pics := by
  intro k
  induction k with
  | zero => rfl
  | succ k ih => exact ih
theorem MOKs_tell {m : MV} (k : MOKs m) (h : Nat → Nat) (hv : 1 ≤ m.moves) : MOKs (mtV m h) ∧ (mtV m h).moves = m.moves - 1 := by
  obtain ⟨k1, k2, k3⟩ := k
  obtain ⟨t1, t2, t3, t4, t5⟩ := mtl_keep (mbV m m.far (8 * h 1 + h 0) (h 2) (h 2 * h 3)) h (h 2 * h 3)
  have em : (mtA m h).moves = m.moves := t5
  have e0 : (mtV m h).moves = m.moves - 1 := by
    show (mtA m h).moves - 1 = _
    rw [em]
  have ep : (mtV m h).pics = m.pics := mtl_pics _ _ _
  refine ⟨⟨by omega, by omega, fun j hj => ?_⟩, e0⟩
  rw [e0] at hj
  obtain ⟨h', q1, q2, q3, q4, q5, q6⟩ := k3 (j + 1) (by omega)
  have sh : ∀ f : Nat → Int32, sh1 f ((mtA m h).moves - 1) j = f (j + 1) := fun f => fz_to_lt (by omega)
  refine ⟨h', ?_, ?_, ?_, ?_, q5, q6⟩
  · show sh1 (mtA m h).mF ((mtA m h).moves - 1) j = _
    rw [sh, show (mtA m h).mF = m.mF from t3]; exact q1
  · show sh1 (mtA m h).mT ((mtA m h).moves - 1) j = _
    rw [sh, show (mtA m h).mT = m.mT from t1]; exact q2
  · show sh1 (mtA m h).mW ((mtA m h).moves - 1) j = _
    rw [sh, show (mtA m h).mW = m.mW from t4]; exact q3
  · show sh1 (mtA m h).mH ((mtA m h).moves - 1) j = _
    rw [sh, show (mtA m h).mH = m.mH from t2]; exact q4
theorem c_X4_tellsW (l : Launch) (g : GG) (o : Nat → Nat) (m0 : MV) (k : MOKs m0) (hv : 1 ≤ m0.moves) : fz_C l g yX4_tellsMove cX4_tellsMove 4 none 1 25 [.ref (o 0)] (MW g o m0) (MW g o (mtW m0)) none := by
  obtain ⟨h, hh⟩ := k.2.2 0 (by omega)
  obtain ⟨⟨q1, q2, q3, q4, q5, q6⟩, -⟩ := hdJ_of hh
  exact c_X4_tellsMove l g o m0 (hdJ m0) q5 q6 q1 q2 q3 q4 hv k.1
def mpT : MV → Int32 → Nat → MV × Int32
  | m, x, 0 => (m, x)
  | m, x, k + 1 => if x < 2 then (m, x) else mpT (mtW m) (x + (-2)) k
def mdF (m : MV) : Nat → Int32 := fun t => b01 (m.since t = -1 ∨ 0 < m.moves)
def mwF (m : MV) : Nat → Int32 := fun t => m.time - m.since t + (if mlI m.look t = 0 then 0 else 5)
def mdW (m : MV) (t : Nat) : MV := (MV.mk9 m.thr m.time m.look m.near m.far m.since m.ch m.moves m.mF m.mT m.mW m.mH m.pics m.known m.sent m.used m.block (fz_to (mdF m) m.done t) (fz_to (mwF m) m.worth t) m.kept m.at_)
theorem mdW_0 (m : MV) : mdW m 0 = m := by
  unfold mdW
  rw [fz_to_0, fz_to_0]
  rfl
theorem mdW_s (m : MV) (t : Nat) (x y : Int32) (hx : x = mdF m t) (hy : y = mwF m t) : (MV.mk9 m.thr m.time m.look m.near m.far m.since m.ch m.moves m.mF m.mT m.mW m.mH m.pics m.known m.sent m.used m.block (upd (fz_to (mdF m) m.done t) t x) (upd (fz_to (mwF m) m.worth t) t y) m.kept m.at_) = mdW m (t + 1) := by
  rw [fz_to_s _ _ _ hx, fz_to_s _ _ _ hy]
  rfl
theorem nar01 {z : Int32} (h : z = 0 ∨ z = 1) : vp_nar .boolean z = z := by
  rcases h with h | h <;> rw [h] <;> rfl
def mnX (m : MV) : Int32 := mnF m.done m.worth 48
def mlS (st : Int32 × MV) : Int32 × MV := (st.1 - (msR st.2 (mnX st.2).toNatClampNeg st.1).1, (msR st.2 (mnX st.2).toNatClampNeg st.1).2.doneS (upd (msR st.2 (mnX st.2).toNatClampNeg st.1).2.done (mnX st.2).toNatClampNeg 1))
def mlF : Nat → Int32 × MV → Int32 × MV
  | 0, st => st
  | n + 1, st => if mnX st.2 = -1 then st else mlF n (mlS st)
def mun (d : Nat → Int32) : Nat → Nat
  | 0 => 0
  | t + 1 => mun d t + (if d t = 0 then 1 else 0)
theorem mun_le (d : Nat → Int32) : ∀ t, mun d t ≤ t := by
  intro t
  induction t with
  | zero => exact Nat.le_refl _
  | succ t ih =>
    show mun d t + (if d t = 0 then 1 else 0) ≤ t + 1
    split <;> omega
theorem mun_u (d : Nat → Int32) (j : Nat) (hj : d j = 0) : ∀ t, mun (upd d j 1) t + (if j < t then 1 else 0) = mun d t := by
  intro t
  induction t with
  | zero => rfl
  | succ t ih =>
    show mun (upd d j 1) t + (if upd d j 1 t = 0 then 1 else 0) + (if j < t + 1 then 1 else 0) = mun d t + (if d t = 0 then 1 else 0)
    by_cases h : t = j
    · subst h
      have e1 : upd d t 1 t = 1 := pk_us
      have n1 : ¬ t < t := Nat.lt_irrefl t
      rw [if_neg n1] at ih
      rw [e1, hj, if_pos (Nat.lt_succ_self t), if_pos rfl, if_neg (show ¬ (1 : Int32) = 0 by decide)]
      omega
    · rw [pk_un h]
      by_cases h2 : j < t
      · rw [if_pos h2] at ih
        rw [if_pos (show j < t + 1 by omega)]
        omega
      · rw [if_neg h2] at ih
        rw [if_neg (show ¬ j < t + 1 by omega)]
        omega
theorem msR_keep (m : MV) (t : Nat) (x : Int32) (hp : m.pics ≤ 8) : (msR m t x).2.done = m.done ∧ (msR m t x).2.worth = m.worth ∧ (msR m t x).2.pics ≤ 8 := by
  have a : ∀ w c, (mpR m t w c x).2.done = m.done ∧ (mpR m t w c x).2.worth = m.worth ∧ (mpR m t w c x).2.pics ≤ 8 := by
    intro w c
    unfold mpR
    split
    · exact ⟨rfl, rfl, hp⟩
    · refine ⟨rfl, rfl, ?_⟩
      show meC m (m.near t) ≤ 8
      unfold meC
      split <;> omega
  have b : (mrR m t x).2.done = m.done ∧ (mrR m t x).2.worth = m.worth ∧ (mrR m t x).2.pics ≤ 8 := by
    unfold mrR
    split
    · exact ⟨rfl, rfl, hp⟩
    · split
      · exact ⟨rfl, rfl, hp⟩
      · exact ⟨rfl, rfl, hp⟩
  unfold msR
  split
  · split
    · exact b
    · exact a _ _
  · exact a _ _
theorem c_X4_sendsX (l : Launch) (g : GG) (o : Nat → Nat) (m0 : MV) (x : Int32) (left : Int32) (hx : x = nI x.toNatClampNeg) (ht : x.toNatClampNeg < 48) (hp : m0.pics ≤ 8) : fz_C l g yX4_sends cX4_sends 7 (some .int) 1 23 [.ref (o 0), .int x, .int left] (MW g o m0) (MW g o (msR m0 x.toNatClampNeg left).2) (some (.int (msR m0 x.toNatClampNeg left).1)) := by
  have k := c_X4_sends l g o m0 x.toNatClampNeg left ht hp
  rw [← hx] at k
  exact k
def mzV (m : MV) (t : Nat) : MV := (MV.mk9 m.thr (m.time + 1) m.look m.near m.far m.since (fz_to (fun t => m.ch t <<< ((1 : Int32) &&& 31) &&& 255) m.ch t) m.moves m.mF m.mT m.mW m.mH m.pics m.known m.sent m.used m.block m.done m.worth m.kept m.at_)
theorem mzV_0 (m : MV) : mzV m 0 = m.timeS (m.time + 1) := by
  unfold mzV
  rw [fz_to_0]
  rfl
def mpS (m : MV) (b : Int32) : Int32 × MV := mlF 49 ((mpT m b m.moves).2, mdW (mpT m b m.moves).1 48)
def mpV (m : MV) (b : Int32) : MV := mzV (mpS m b).2 48
