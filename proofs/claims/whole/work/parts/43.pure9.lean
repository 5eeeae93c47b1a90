/-! the sending of tiles in a step, on both sides -/
theorem srt_cong2 {w w' : Nat → Int32} {U : Nat → Prop} {o : Nat → Int32} {n t : Nat} (ht : t ≤ 48) (e : ∀ i, i < t → U i → w i = w' i) (h : srt w U o n t) : srt w' U o n t := by
  obtain ⟨h1, h2, h3⟩ := h
  have bt : ∀ j, j < n → w (o j).toNatClampNeg = w' (o j).toNatClampNeg := fun j hj => by
    obtain ⟨i, b1, b2, b3⟩ := h1 j hj
    rw [b2, nI_clamp (by omega)]
    exact e i b1 b3
  refine ⟨h1, h2, fun p q hpq hq => ?_⟩
  have k := h3 p q hpq hq
  unfold beh at k ⊢
  rw [bt p (by omega), bt q hq] at k
  exact k
theorem mdW_done (m : MV) {i : Nat} (hi : i < 48) : (mdW m 48).done i = mdF m i := fz_to_lt (f := mdF m) (h := m.done) hi
theorem mdW_worth (m : MV) {i : Nat} (hi : i < 48) : (mdW m 48).worth i = mwF m i := fz_to_lt (f := mwF m) (h := m.worth) hi
theorem mdF_0 {m : MV} {i : Nat} : mdF m i = 0 ↔ ¬ m.since i = -1 ∧ ¬ 0 < m.moves := by
  unfold mdF
  rw [b01_0]
  exact ⟨fun z => ⟨fun y => z (Or.inl y), fun y => z (Or.inr y)⟩, fun z y => y.elim z.1 z.2⟩
theorem alk_stay {m : MV} (x : Int32) (h0 : 0 < m.moves) : mlF 49 (x, mdW m 48) = (x, mdW m 48) := by
  refine mlF_N 0 49 _ (by omega) (fun p hp => absurd hp (Nat.not_lt_zero _)) ?_
  refine mnF_end (Nat.le_refl _) (fun i hi z => ?_)
  have z : (mdW m 48).done i = 0 := z
  rw [mdW_done m hi] at z
  exact (mdF_0.mp z).2 h0
theorem alk_pi {v : SV} {m : MV} (h : Alk v m) (t : Nat) : Alk (piV v t) (mdW m 48) := h
theorem alk_send {v : SV} {m : MV} (h : Alk v m) (h0 : m.moves = 0) (b : Int32) : (saR v b).1 = b - (mlF 49 (b, mdW m 48)).1 ∧ Alk (saR v b).2 (mlF 49 (b, mdW m 48)).2 := by
  obtain ⟨p1, p2, p3⟩ := piF_so v 48 (Nat.le_refl _)
  have q3 := h.2.2.1
  have ew : ∀ i, i < 48 → ¬ v.since i = -1 → (piF v 48).2.1 i = (mdW m 48).worth i := fun i hi ui => by
    rw [p3 i hi ui, mdW_worth m hi]
    exact wo_eq hi h.2.2.2.2.2.2.2.2.2.2.2.2.2.2.2 h.2.2.2.2.2.2.2.2.2.2.2.2.2.2.1 h.2.2.2.2.2.2.2.2.2.2.2.2.2.1 (q3 i hi)
  have hs : srt (mdW m 48).worth (unl (piV v 48)) (piV v 48).order (piF v 48).1 48 := srt_cong2 (Nat.le_refl _) ew p1
  have hd : ∀ i, i < 48 → ((mdW m 48).done i = 0 ↔ ¬ (piV v 48).since i = -1) := fun i hi => by
    rw [mdW_done m hi, mdF_0, ← q3 i hi]
    exact ⟨fun z => z.1, fun z => ⟨z, by omega⟩⟩
  obtain ⟨k1, k2, k3, k4, k5, k6⟩ := send_all (b := b) (alk_pi h 48) hs hd (piF v 48).1 (Nat.le_refl _)
  have e : mlF 49 (b, mdW m 48) = mlN (piF v 48).1 (b, mdW m 48) := by
    refine mlF_N (piF v 48).1 49 _ (by omega) (fun p hp => ?_) ?_
    · obtain ⟨i, i1, i2, i3⟩ := hs.1 p hp
      rw [k6 p hp, i2]
      exact nI_m1 (by omega)
    · refine mnF_end (Nat.le_refl _) (fun i hi z => ?_)
      obtain ⟨u1, u2⟩ := (k5 i hi).mp z
      obtain ⟨q, q1, q2⟩ := hs.2.1 i hi u1
      exact u2 q q1 q2
  rw [e]
  have er : saR v b = (b - (saF (piV v 48) b (piF v 48).1).1, (saF (piV v 48) b (piF v 48).1).2) := rfl
  rw [er]
  exact ⟨by rw [← k1], k2⟩
