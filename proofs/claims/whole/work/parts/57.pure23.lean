/-! a step, on both sides -/
theorem msR_since (m : MV) (t : Nat) (x : Int32) {i : Nat} (hi : ¬ i = t) : (msR m t x).2.since i = m.since i := by
  have a : ∀ w c, (mpR m t w c x).2.since i = m.since i := by
    intro w c
    unfold mpR
    split
    · rfl
    · exact pk_un hi
  have b : (mrR m t x).2.since i = m.since i := by
    unfold mrR
    split
    · rfl
    · split <;> rfl
  unfold msR
  split
  · split
    · exact b
    · exact a _ _
  · exact a _ _
theorem ivm_lF {K : Nat} : ∀ (n : Nat) (st : Int32 × MV), Ivm st.2 K → st.2.pics ≤ 8 → (∀ i, i < 48 → st.2.done i = 0 → ¬ st.2.since i = -1) → Ivm (mlF n st).2 K := by
  intro n
  induction n with
  | zero => intro st h _ _; exact h
  | succ n ih =>
    intro st h hp hd
    show Ivm (if mnX st.2 = -1 then st else mlF n (mlS st)).2 K
    by_cases z : mnX st.2 = -1
    · rw [if_pos z]; exact h
    · rw [if_neg z]
      obtain ⟨j, j1, j2, j3⟩ : ∃ j, j < 48 ∧ mnX st.2 = nI j ∧ st.2.done j = 0 := by
        rcases mnF_in st.2.done st.2.worth 48 with q | q
        · exact absurd q z
        · exact q
      have ec : (mnX st.2).toNatClampNeg = j := by rw [j2]; exact nI_clamp (by omega)
      obtain ⟨g1, -, g3⟩ := msR_keep st.2 j st.1 hp
      have es : mlS st = (st.1 - (msR st.2 j st.1).1, (msR st.2 j st.1).2.doneS (upd (msR st.2 j st.1).2.done j 1)) := by
        unfold mlS
        rw [ec]
      rw [es]
      refine ih _ (ivm_st h j1 (hd j j1 j3) st.1) g3 (fun i hi hdi => ?_)
      have hdi : upd (msR st.2 j st.1).2.done j 1 i = 0 := hdi
      show ¬ (msR st.2 j st.1).2.since i = -1
      by_cases y : i = j
      · rw [y, pk_us] at hdi
        exact absurd hdi (by decide)
      · rw [pk_un y, g1] at hdi
        rw [msR_since _ _ _ y]
        exact hd i hi hdi
theorem ivm_sd {m : MV} {K : Nat} (x : Int32) (h : Ivm m K) (hp : m.pics ≤ 8) : Ivm (mlF 49 (x, mdW m 48)).2 K := by
  refine ivm_lF 49 _ h hp (fun i hi hd => ?_)
  have hd : (mdW m 48).done i = 0 := hd
  rw [mdW_done m hi] at hd
  exact (mdF_0.mp hd).1
theorem i_bcd (b c d : Int32) : c + (b - c - d) = b - d := by grind
theorem i_bbc (b c : Int32) : b - (b - c) = c := by grind
theorem alk_ps {v : SV} {m : MV} {K : Nat} (h : Alk v m) (hi : Ivm m K) (b : Int32) : (psA v b).1 = b - (mpS m b).1 ∧ Alk (psA v b).2 (mpS m b).2 ∧ Ivm (mpS m b).2 K := by
  obtain ⟨t1, t2, t3⟩ := tell_alk h hi b
  have e : mpS m b = mlF 49 ((mpT m b m.moves).2, mdW (mpT m b m.moves).1 48) := rfl
  rw [e]
  generalize mpT m b m.moves = T at *
  obtain ⟨M, x⟩ := T
  have t1 : x = b - (tlR v b).1 := t1
  have t2 : Alk (tlR v b).2 M := t2
  have t3 : Ivm M K := t3
  show (psA v b).1 = b - (mlF 49 (x, mdW M 48)).1 ∧ Alk (psA v b).2 (mlF 49 (x, mdW M 48)).2 ∧ Ivm (mlF 49 (x, mdW M 48)).2 K
  have iv : Ivm (mlF 49 (x, mdW M 48)).2 K := ivm_sd x t3 t2.2.2.2.2.2.2.2.2.2.1
  have ew : (tlR v b).2.wm = M.moves := t2.2.2.2.2.2.1
  unfold psA
  by_cases z : M.moves = 0
  · rw [if_pos (ew.trans z), ← t1]
    obtain ⟨s1, s2⟩ := alk_send t2 z x
    refine ⟨?_, s2, iv⟩
    show (tlR v b).1 + (saR (tlR v b).2 x).1 = _
    rw [s1, t1, i_bcd]
  · rw [if_neg (fun k => z (ew.symm.trans k))]
    rw [alk_stay x (by omega)] at iv ⊢
    refine ⟨?_, t2, iv⟩
    show (tlR v b).1 = b - x
    rw [t1, i_bbc]
theorem ivm_z {m : MV} {K : Nat} (h : Ivm m K) (hK : K + 1 < 2 ^ 31) : Ivm (mzV m 48) (K + 1) := by
  obtain ⟨h1, ⟨k, hk, e⟩, h3, h4⟩ := h
  refine ⟨h1, ⟨k + 1, by omega, ?_⟩, h3, hK⟩
  show m.time + 1 = _
  rw [e]
  exact nI_1 k
theorem alk_step {v : SV} {m : MV} {K : Nat} (h : Alk v m) (hi : Ivm m K) (hK : K + 1 < 2 ^ 31) (b : Int32) : (psA v b).1 = b - (mpS m b).1 ∧ Alk (psV v b) ((mpV m b).usedS (m.used + (b - (mpS m b).1))) ∧ Ivm (mpV m b) (K + 1) ∧ (mpV m b).used = m.used := by
  obtain ⟨p1, p2, p3⟩ := alk_ps h hi b
  have eu : (mpS m b).2.used = m.used := by
    have k1 := p2.2.2.2.2.2.2.2.2.2.2.2.2.1
    have k2 : (psA v b).2.us = v.us := by
      have A : ∀ (p : Nat) (w : SV) (y : Int32), (saF w y p).2.us = w.us := by
        intro p w y
        induction p with
        | zero => rfl
        | succ p ih =>
          have st : ∀ (u : SV) (t : Nat) (x : Int32), (stR u t x).2.us = u.us := by
            intro u t x
            have sp : ∀ w c, (spR u t w c x).2.us = u.us := by
              intro w c
              unfold spR
              split <;> rfl
            have sr : (srR u t x).2.us = u.us := by
              unfold srR
              split
              · rfl
              · split <;> rfl
            unfold stR
            split
            · split
              · exact sr
              · exact sp _ _
            · exact sp _ _
          exact (st _ _ _).trans ih
      have B : ∀ (k : Nat) (w : SV) (told : Nat), (tlF b w told k).2.us = w.us := by
        intro k
        induction k with
        | zero => intro w told; rfl
        | succ k ih =>
          intro w told
          show (if b - nI told * 2 < 2 then (told, w) else tlF b (nuV (afV w told)) (told + 1) k).2.us = w.us
          split
          · rfl
          · exact ih _ _
      have C : (tlR v b).2.us = v.us := B _ _ _
      unfold psA
      split
      · exact (A _ _ _).trans C
      · exact C
    have k3 := h.2.2.2.2.2.2.2.2.2.2.2.2.1
    exact k1.symm.trans (k2.trans k3)
  have k := alk_sc p2 (psA v b).1
  rw [p1, eu] at k
  refine ⟨p1, ?_, ivm_z p3 hK, eu⟩
  show Alk (scV (unV (psA v b).2 (psA v b).1)) _
  rw [p1]
  exact k
