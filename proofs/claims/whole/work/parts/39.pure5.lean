/-! both sides stand alike -/
def Alk (v : SV) (m : MV) : Prop := (∀ t, t < 48 → v.near t = m.near t) ∧ (∀ t, t < 48 → v.far t = m.far t) ∧ (∀ t, t < 48 → v.since t = m.since t) ∧ (∀ t, t < 48 → v.ch t = m.ch t) ∧ (∀ t, t < 48 → ∃ k, k < 256 ∧ m.ch t = nI k) ∧ v.wm = m.moves ∧ m.moves ≤ 4 ∧ (∀ j, j < m.moves → MM1 m j (v.mv j)) ∧ v.kc = m.pics ∧ m.pics ≤ 8 ∧ (∀ j, j < m.pics → v.kp j = m.known j) ∧ (∀ j, j < 4 → v.sc j = m.sent j) ∧ v.us = m.used ∧ v.now = m.time ∧ v.la = m.look ∧ m.look < 48
theorem up_eq {f g : Nat → Int32} {n i : Nat} {x y : Int32} (h : ∀ j, j < n → f j = g j) (e : x = y) : ∀ j, j < n → upd f i x j = upd g i y j := by
  intro j hj
  by_cases z : j = i
  · rw [z, pk_us, pk_us, e]
  · rw [pk_un z, pk_un z]
    exact h j hj
theorem rl_sp {v : SV} {m : MV} (h : Alk v m) {t : Nat} (ht : t < 48) {w : Nat} (hw : w < 4) : Alk (spV v t w) (mpW m t w) := by
  obtain ⟨h1, h2, h3, h4, h5, h6, h7, h8, h9, h10, h11, h12, h13, h14, h15, h16⟩ := h
  have en := h1 t ht
  obtain ⟨k1, k2, k3⟩ := rk_meet h10 h11 (m.near t)
  have k1 : mtC v.kp v.kc (v.near t) = meC m (m.near t) := by rw [en, h9]; exact k1
  refine ⟨h1, up_eq h2 en, up_eq h3 rfl, h4, h5, h6, h7, h8, k1, k2, ?_, up_eq h12 (by rw [h12 w hw]), h13, h14, h15, h16⟩
  intro j hj
  show mtP v.kp v.kc (v.near t) j = _
  rw [en, h9]
  exact k3 j hj
theorem rl_sr {v : SV} {m : MV} (h : Alk v m) {t : Nat} (ht : t < 48) : Alk (srV v t) (mrW m t) := by
  obtain ⟨h1, h2, h3, h4, h5, h6, h7, h8, h9, h10, h11, h12, h13, h14, h15, h16⟩ := h
  have en := h1 t ht
  refine ⟨h1, up_eq h2 ?_, h3, h4, h5, h6, h7, h8, h9, h10, h11, up_eq h12 (by rw [h12 2 (by omega)]), h13, h14, h15, h16⟩
  show 1000 + v.near t / 16 = 1000 + m.near t / 16
  rw [en]
theorem rl_kd {v : SV} {m : MV} (h : Alk v m) {t : Nat} (ht : t < 48) : kdI v t = mkI m t := kd_eq (h.2.2.2.1 t ht) (h.1 t ht) (h.2.2.2.2.1 t ht)
theorem rl_is {v : SV} {m : MV} (h : Alk v m) (x : Int32) : plcF v.kp x 0 v.kc = -1 ↔ mkF m.known x m.pics = 0 := by
  obtain ⟨h1, h2, h3, h4, h5, h6, h7, h8, h9, h10, h11, -⟩ := h
  rw [h9]
  exact rk_is h10 h11 x
theorem rl_pp {v : SV} {m : MV} (h : Alk v m) {t : Nat} (ht : t < 48) {w : Nat} (hw : w < 4) {c d : Int32} (hc : c = d) (x : Int32) : (spR v t w c x).1 = (mpR m t w d x).1 ∧ Alk (spR v t w c x).2 (mpR m t w d x).2 := by
  subst hc
  unfold spR mpR
  by_cases z : x < c
  · rw [if_pos z, if_pos z]
    exact ⟨rfl, h⟩
  · rw [if_neg z, if_neg z]
    exact ⟨rfl, rl_sp h ht hw⟩
theorem rl_rr {v : SV} {m : MV} (h : Alk v m) {t : Nat} (ht : t < 48) (x : Int32) : (srR v t x).1 = (mrR m t x).1 ∧ Alk (srR v t x).2 (mrR m t x).2 := by
  have e1 := h.1 t ht
  have e2 := h.2.1 t ht
  have e3 : roI v t = mroI m t := by
    show 1000 + v.near t / 16 = 1000 + m.near t / 16
    rw [e1]
  unfold srR mrR
  by_cases z : x < 2
  · rw [if_pos z, if_pos z]
    exact ⟨rfl, h⟩
  · rw [if_neg z, if_neg z, e2, e3]
    by_cases q : m.far t = mroI m t
    · rw [if_pos q, if_pos q]
      exact ⟨rfl, h⟩
    · rw [if_neg q, if_neg q]
      exact ⟨rfl, rl_sr h ht⟩
theorem rl_st {v : SV} {m : MV} (h : Alk v m) {t : Nat} (ht : t < 48) (x : Int32) : (stR v t x).1 = (msR m t x).1 ∧ Alk (stR v t x).2 (msR m t x).2 := by
  have e1 := h.1 t ht
  have ek := rl_kd h ht
  have ei := rl_is h (m.near t)
  unfold stR msR
  rw [e1, ek]
  by_cases z : mkF m.known (m.near t) m.pics = 0
  · rw [if_pos z, if_pos (ei.mpr z)]
    by_cases q : mkI m t = 2
    · rw [if_pos q, if_pos q]
      exact rl_rr h ht x
    · rw [if_neg q, if_neg q]
      refine rl_pp h ht (by omega) ?_ x
      unfold wcI
      unfold mkI at q ⊢
      by_cases y : mkS (m.ch t) 8 ≤ 3
      · rw [if_pos y]
        by_cases r : m.near t < 64
        · rw [if_pos r, if_pos r, if_pos rfl]
        · rw [if_neg r, if_neg r, if_neg (by decide)]
      · rw [if_neg y] at q
        exact absurd rfl q
  · rw [if_neg z, if_neg (fun y => z (ei.mp y))]
    exact rl_pp h ht (by omega) rfl x
