/-! the order of sending is the reference's -/
theorem srt_cong {w w' : Nat → Int32} {U : Nat → Prop} {o : Nat → Int32} {n t : Nat} (ht : t ≤ 48) (e : ∀ i, i < t → w i = w' i) (h : srt w U o n t) : srt w' U o n t := by
  obtain ⟨h1, h2, h3⟩ := h
  have bt : ∀ j, j < n → (o j).toNatClampNeg < t := fun j hj => by
    obtain ⟨i, b1, b2, b3⟩ := h1 j hj
    rw [b2, nI_clamp (by omega)]
    exact b1
  refine ⟨h1, h2, fun p q hpq hq => ?_⟩
  have k := h3 p q hpq hq
  unfold beh at k ⊢
  rw [e _ (bt p (by omega)), e _ (bt q hq)] at k
  exact k
abbrev unl (v : SV) : Nat → Prop := fun i => ¬ v.since i = -1
theorem piF_so (v : SV) : ∀ t, t ≤ 48 → srt (piF v t).2.1 (unl v) (piF v t).2.2 (piF v t).1 t ∧ (piF v t).1 ≤ t ∧ ∀ i, i < t → ¬ v.since i = -1 → (piF v t).2.1 i = woI v i := by
  intro t
  induction t with
  | zero => intro _; exact ⟨⟨fun p hp => absurd hp (Nat.not_lt_zero _), fun i hi => absurd hi (Nat.not_lt_zero _), fun p q _ hq => absurd hq (Nat.not_lt_zero _)⟩, Nat.le_refl _, fun i hi => absurd hi (Nat.not_lt_zero _)⟩
  | succ t ih =>
    intro ht
    obtain ⟨h1, h2, h3⟩ := ih (by omega)
    by_cases z : v.since t = -1
    · have e : piF v (t + 1) = piF v t := if_pos z
      rw [e]
      refine ⟨srt_skip h1 (fun q => q z), by omega, fun i hi ui => ?_⟩
      rcases (show i < t ∨ i = t by omega) with q | q
      · exact h3 i q ui
      · rw [q] at ui; exact absurd z ui
    · have e : piF v (t + 1) = ((piF v t).1 + 1, upd (piF v t).2.1 t (woI v t), insF (upd (piF v t).2.1 t (woI v t)) t (piF v t).1 (piF v t).2.2) := if_neg z
      rw [e]
      refine ⟨srt_put (by omega) (srt_cong (by omega) (fun i hi => (pk_un (by omega)).symm) h1) z, by show (piF v t).1 + 1 ≤ t + 1; omega, fun i hi ui => ?_⟩
      show upd (piF v t).2.1 t (woI v t) i = woI v i
      by_cases q : i = t
      · rw [q, pk_us]
      · rw [pk_un q]
        exact h3 i (by omega) ui
theorem stR_ord (v : SV) (t : Nat) (b : Int32) : (stR v t b).2.order = v.order ∧ (stR v t b).2.worths = v.worths := by
  have sp : ∀ w c, (spR v t w c b).2.order = v.order ∧ (spR v t w c b).2.worths = v.worths := by
    intro w c
    unfold spR
    split <;> exact ⟨rfl, rfl⟩
  have sr : (srR v t b).2.order = v.order ∧ (srR v t b).2.worths = v.worths := by
    unfold srR
    split
    · exact ⟨rfl, rfl⟩
    · split <;> exact ⟨rfl, rfl⟩
  unfold stR
  split
  · split
    · exact sr
    · exact sp _ _
  · exact sp _ _
/-- p sendings of the reference -/
def mlN : Nat → Int32 × MV → Int32 × MV
  | 0, st => st
  | p + 1, st => mlS (mlN p st)
theorem mlN_s (p : Nat) : ∀ st, mlN p (mlS st) = mlS (mlN p st) := by
  induction p with
  | zero => intro st; rfl
  | succ p ih =>
    intro st
    show mlS (mlN p (mlS st)) = mlS (mlS (mlN p st))
    rw [ih]
theorem mlF_N : ∀ (n k : Nat) (st : Int32 × MV), n < k → (∀ p, p < n → ¬ mnX (mlN p st).2 = -1) → mnX (mlN n st).2 = -1 → mlF k st = mlN n st := by
  intro n
  induction n with
  | zero =>
    intro k st hk _ h
    obtain ⟨k, rfl⟩ : ∃ j, k = j + 1 := ⟨k - 1, by omega⟩
    exact if_pos h
  | succ n ih =>
    intro k st hk h1 h2
    obtain ⟨k, rfl⟩ : ∃ j, k = j + 1 := ⟨k - 1, by omega⟩
    have e : mlF (k + 1) st = mlF k (mlS st) := if_neg (h1 0 (by omega))
    rw [e, ih k (mlS st) (by omega) (fun p hp => by rw [mlN_s]; exact h1 (p + 1) (by omega)) (by rw [mlN_s]; exact h2), mlN_s]
    rfl
theorem send_all {v : SV} {m : MV} (h : Alk v m) {n : Nat} {b : Int32} (hs : srt m.worth (unl v) v.order n 48) (hd : ∀ i, i < 48 → (m.done i = 0 ↔ ¬ v.since i = -1)) : ∀ p, p ≤ n → (saF v b p).1 = (mlN p (b, m)).1 ∧ Alk (saF v b p).2 (mlN p (b, m)).2 ∧ (saF v b p).2.order = v.order ∧ (mlN p (b, m)).2.worth = m.worth ∧ (∀ i, i < 48 → ((mlN p (b, m)).2.done i = 0 ↔ ¬ v.since i = -1 ∧ ∀ q, q < p → ¬ v.order q = nI i)) ∧ ∀ q, q < p → mnX (mlN q (b, m)).2 = v.order q := by
  obtain ⟨s1, s2, s3⟩ := hs
  have ne : ∀ i j, i < 48 → j < 48 → nI i = nI j → i = j := fun i j hi hj e => (nI_eq (by omega) (by omega)).mp e
  intro p
  induction p with
  | zero => intro _; exact ⟨rfl, h, rfl, rfl, fun i hi => ⟨fun z => ⟨(hd i hi).mp z, fun q hq => absurd hq (Nat.not_lt_zero _)⟩, fun z => (hd i hi).mpr z.1⟩, fun q hq => absurd hq (Nat.not_lt_zero _)⟩
  | succ p ih =>
    intro hp
    obtain ⟨h1, h2, h3, h4, h5, h6⟩ := ih (by omega)
    obtain ⟨t, t1, t2, t3⟩ := s1 p (by omega)
    have ec : (nI t).toNatClampNeg = t := nI_clamp (by omega)
    have hx : mnX (mlN p (b, m)).2 = nI t := by
      refine mnF_pick (Nat.le_refl _) t1 ((h5 t t1).mpr ⟨t3, fun q hq z => ?_⟩) (fun i hi hdi => ?_)
      · have k := s3 q p hq (by omega)
        rw [z, t2] at k
        exact beh_no k k
      · obtain ⟨u1, u2⟩ := (h5 i hi).mp hdi
        obtain ⟨q, q1, q2⟩ := s2 i hi u1
        rcases (show q < p ∨ q = p ∨ p < q by omega) with z | z | z
        · exact absurd q2 (u2 q z)
        · rw [z, t2] at q2
          exact Or.inl (ne t i t1 hi q2).symm
        · have k := s3 p q z q1
          rw [q2, t2, ec, nI_clamp (show i < 2 ^ 31 by omega)] at k
          rw [h4]
          exact Or.inr k
    have ex : (mnX (mlN p (b, m)).2).toNatClampNeg = t := by rw [hx]; exact ec
    obtain ⟨k1, k2⟩ := rl_st h2 t1 (saF v b p).1
    obtain ⟨g1, g2, -⟩ := msR_keep (mlN p (b, m)).2 t (mlN p (b, m)).1 h2.2.2.2.2.2.2.2.2.2.1
    have e1 : saF v b (p + 1) = ((saF v b p).1 - (stR (saF v b p).2 t (saF v b p).1).1, (stR (saF v b p).2 t (saF v b p).1).2) := by
      show ((saF v b p).1 - (stR (saF v b p).2 ((saF v b p).2.order p).toNatClampNeg (saF v b p).1).1, (stR (saF v b p).2 ((saF v b p).2.order p).toNatClampNeg (saF v b p).1).2) = _
      rw [h3, t2, ec]
    have e2 : mlN (p + 1) (b, m) = ((mlN p (b, m)).1 - (msR (mlN p (b, m)).2 t (mlN p (b, m)).1).1, (msR (mlN p (b, m)).2 t (mlN p (b, m)).1).2.doneS (upd (msR (mlN p (b, m)).2 t (mlN p (b, m)).1).2.done t 1)) := by
      show mlS (mlN p (b, m)) = _
      unfold mlS
      rw [ex]
    rw [e1, e2]
    rw [h1] at k1 k2
    refine ⟨?_, ?_, ?_, ?_, fun i hi => ?_, fun q hq => ?_⟩
    · show (saF v b p).1 - (stR (saF v b p).2 t (saF v b p).1).1 = (mlN p (b, m)).1 - (msR (mlN p (b, m)).2 t (mlN p (b, m)).1).1
      rw [h1, k1]
    · show Alk (stR (saF v b p).2 t (saF v b p).1).2 _
      rw [h1]
      exact k2
    · show (stR (saF v b p).2 t (saF v b p).1).2.order = _
      rw [(stR_ord _ _ _).1, h3]
    · show (msR (mlN p (b, m)).2 t (mlN p (b, m)).1).2.worth = _
      rw [g2, h4]
    · show upd (msR (mlN p (b, m)).2 t (mlN p (b, m)).1).2.done t 1 i = 0 ↔ _
      rw [g1]
      by_cases z : i = t
      · rw [z, pk_us]
        exact ⟨fun y => absurd y (by decide), fun y => absurd t2 (y.2 p (by omega))⟩
      · rw [pk_un z, h5 i hi]
        refine ⟨fun y => ⟨y.1, fun q hq r => ?_⟩, fun y => ⟨y.1, fun q hq => y.2 q (by omega)⟩⟩
        rcases (show q < p ∨ q = p by omega) with w | w
        · exact y.2 q w r
        · rw [w, t2] at r
          exact z (ne t i t1 hi r).symm
    · rcases (show q < p ∨ q = p by omega) with w | w
      · exact h6 q w
      · rw [w, hx, t2]
