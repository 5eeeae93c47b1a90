/-! a step, on both sides -/
def sndL (x : LV) (o : Nat → Int32) (c : Int32) : Nat → Int32 × LV
  | 0 => (c, x)
  | p + 1 => ((sndL x o c p).1 - (sxR (sndL x o c p).2 (o p).toNatClampNeg (sndL x o c p).1).1, (sxR (sndL x o c p).2 (o p).toNatClampNeg (sndL x o c p).1).2)
theorem stR_since (v : SV) (t : Nat) (c : Int32) {i : Nat} (hi : ¬ i = t) : (stR v t c).2.since i = v.since i := by
  have sp : ∀ w k, (spR v t w k c).2.since i = v.since i := by
    intro w k
    unfold spR
    split
    · rfl
    · exact pk_un hi
  have sr : (srR v t c).2.since i = v.since i := by
    unfold srR
    split
    · rfl
    · split <;> rfl
  unfold stR
  split
  · split
    · exact sr
    · exact sp _ _
  · exact sp _ _
theorem rel_snd {v : SV} {y : Int32} {x : LV} {T n : Nat} {w : Nat → Int32} {o : Nat → Int32} (hr : Rel v y x) (hi : Inv v T) (hs : srt w (unl v) o n 48) (ho : ∀ p, p < n → v.order p = o p) (c : Int32) : ∀ p, p ≤ n → (saF v c p).1 = (sndL x o c p).1 ∧ Rel (saF v c p).2 y (sndL x o c p).2 ∧ Inv (saF v c p).2 T ∧ (saF v c p).2.order = v.order ∧ ∀ i, i < 48 → (∀ q, q < p → ¬ o q = nI i) → (saF v c p).2.since i = v.since i := by
  intro p
  induction p with
  | zero => intro _; exact ⟨rfl, hr, hi, rfl, fun _ _ _ => rfl⟩
  | succ p ih =>
    intro hp
    obtain ⟨h1, h2, h3, h4, h5⟩ := ih (by omega)
    obtain ⟨i, i1, i2, i3⟩ := hs.1 p (by omega)
    have e1 : saF v c (p + 1) = ((saF v c p).1 - (stR (saF v c p).2 ((saF v c p).2.order p).toNatClampNeg (saF v c p).1).1, (stR (saF v c p).2 ((saF v c p).2.order p).toNatClampNeg (saF v c p).1).2) := rfl
    have e2 : sndL x o c (p + 1) = ((sndL x o c p).1 - (sxR (sndL x o c p).2 (o p).toNatClampNeg (sndL x o c p).1).1, (sxR (sndL x o c p).2 (o p).toNatClampNeg (sndL x o c p).1).2) := rfl
    have ei : (o p).toNatClampNeg = i := by rw [i2]; exact nI_clamp (by omega)
    rw [e1, e2, h4, ho p (by omega), ei, ← h1]
    have hun : ¬ (saF v c p).2.since i = -1 := by
      rw [h5 i i1 (fun q hq z => by
        have := srt_inj hs (show q < n by omega) (show p < n by omega) (by rw [z, i2])
        omega)]
      exact i3
    obtain ⟨s1, s2, s3⟩ := rel_st h2 h3 i1 hun (saF v c p).1
    refine ⟨by rw [s1], s2, s3, (stR_ord _ _ _).1.trans h4, fun k hk hq => ?_⟩
    have hki : ¬ k = i := fun z => hq p (by omega) (by rw [i2, z])
    rw [stR_since _ _ _ hki]
    exact h5 k hk (fun q q1 => hq q (by omega))
/-- what the tiles are worth decides the order -/
theorem rel_sa {v : SV} {y : Int32} {x : LV} {T n : Nat} {w : Nat → Int32} {o : Nat → Int32} (hr : Rel v y x) (hi : Inv v T) (hs : srt w (unl v) o n 48) (hw : ∀ i, i < 48 → ¬ v.since i = -1 → w i = woI v i) (c : Int32) : (saR v c).1 = c - (sndL x o c n).1 ∧ Rel (saR v c).2 y (sndL x o c n).2 ∧ Inv (saR v c).2 T := by
  obtain ⟨s1, -, s3⟩ := piF_so v 48 (Nat.le_refl _)
  have s2 : srt w (unl v) (piF v 48).2.2 (piF v 48).1 48 := srt_cong2 (Nat.le_refl _) (fun i i1 i2 => (s3 i i1 i2).trans (hw i i1 i2).symm) s1
  have en : n = (piF v 48).1 := srt_num (Nat.le_refl _) hs s2
  have eo : ∀ p, p < n → (piV v 48).order p = o p := fun p hp => ((srt_same (Nat.le_refl _) hs s2 p hp).2).symm
  have hr' : Rel (piV v 48) y x := hr
  have hi' : Inv (piV v 48) T := hi
  obtain ⟨k1, k2, k3, -, -⟩ := rel_snd (v := piV v 48) (w := w) hr' hi' hs eo c n (Nat.le_refl _)
  have e : saR v c = (c - (saF (piV v 48) c (piF v 48).1).1, (saF (piV v 48) c (piF v 48).1).2) := rfl
  rw [e, ← en]
  exact ⟨by rw [k1], k2, k3⟩
/-- the end of a step -/
def fnL (x : LV) : LV := (x.ggS (upd x.gg 0 (x.gg 0 + 1))).hS (fz_to (fun t => (x.h t - x.h t / 128 * 128) * 2) x.h 48)
theorem sh_two : ∀ k : Fin 256, (nI k.val - nI k.val / 128 * 128) * 2 = (nI k.val) <<< ((1 : Int32) &&& 31) &&& 255 := by decide +kernel
theorem rel_fin {v : SV} {y : Int32} {x : LV} {T : Nat} (hr : Rel v y x) (hi : Inv v T) (hT : T + 1 < 2 ^ 20) (c : Int32) : Rel (scV (unV v c)) y (fnL x) ∧ Inv (scV (unV v c)) (T + 1) := by
  obtain ⟨r1, r2, r3, r4, r5, r6, r7, r8, r9, r10, r11, r12⟩ := hr
  obtain ⟨⟨q1, q2, q3, q4, q5, q6, q7, q8, ⟨N, n1, n2, n3⟩, -⟩, hu⟩ := hi
  have eg : ∀ j, ¬ j = 0 → (fnL x).gg j = x.gg j := fun j hj => pk_un hj
  have ec : ∀ t, t < 48 → (scV (unV v c)).ch t = v.ch t <<< ((1 : Int32) &&& 31) &&& 255 := fun t ht => fz_to_lt (f := fun t => v.ch t <<< ((1 : Int32) &&& 31) &&& 255) (h := v.ch) ht
  refine ⟨⟨r1, r2, r3, fun t ht => ?_, r5, r6, r7, ?_, (eg 1 (by omega)).trans r9, (eg 2 (by omega)).trans r10, (eg 3 (by omega)).trans r11, fun k hk => (eg (4 + k) (by omega)).trans (r12 k hk)⟩, ⟨q1, q2, q3, q4, q5, q6, fun t ht => ?_, q8, ⟨N + 1, by omega, ?_, fun t ht => ?_⟩, hT⟩, hu⟩
  · obtain ⟨k, hk, e⟩ := q7 t ht
    rw [ec t ht]
    show fz_to (fun t => (x.h t - x.h t / 128 * 128) * 2) x.h 48 t = _
    rw [fz_to_lt ht, r4 t ht, e]
    exact sh_two ⟨k, hk⟩
  · show upd x.gg 0 (x.gg 0 + 1) 0 = v.now + 1
    rw [pk_us, r8]
  · obtain ⟨k, hk, e⟩ := q7 t ht
    rw [ec t ht, e]
    exact ⟨2 * k % 256, Nat.mod_lt _ (by omega), sh_all ⟨k, hk⟩⟩
  · show v.now + 1 = _
    rw [n2]; exact nI_1 N
  · rcases n3 t ht with z | ⟨k, k1, k2⟩
    · exact Or.inl z
    · exact Or.inr ⟨k, by omega, k2⟩
/-- a step's tiles: how much is told, and what stands then -/
theorem ps_0 {v : SV} {b : Int32} (h : ¬ (tlR v b).2.wm = 0) : psA v b = tlR v b := if_neg h
theorem ps_1 {v : SV} {b : Int32} (h : (tlR v b).2.wm = 0) : psA v b = ((tlR v b).1 + (saR (tlR v b).2 (b - (tlR v b).1)).1, (saR (tlR v b).2 (b - (tlR v b).1)).2) := if_pos h
/-- two states of one picture: a step does the same to both -/
theorem two_step {v w : SV} {y : Int32} {x : LV} {T : Nat} (hv : Rel v y x) (hw : Rel w y x) (iv : Inv v T) (iw : Inv w T) (hT : T + 1 < 2 ^ 20) (b : Int32) : (psA v b).1 = (psA w b).1 ∧ ∃ x1, Rel (psV v b) y x1 ∧ Rel (psV w b) y x1 ∧ Inv (psV v b) (T + 1) ∧ Inv (psV w b) (T + 1) := by
  have ewm : v.wm = w.wm := by
    have a := hv.2.2.2.2.2.2.2.2.2.1
    have c := hw.2.2.2.2.2.2.2.2.2.1
    rw [a] at c
    have l1 := iv.1.1
    have l2 := iw.1.1
    exact (nI_eq (by omega) (by omega)).mp c
  obtain ⟨a1, a2, a3⟩ := rel_tell b v.wm v x 0 (by omega) (rel_fg hv) (inv_fg iv)
  obtain ⟨c1, c2, c3⟩ := rel_tell b w.wm w x 0 (by omega) (rel_fg hw) (inv_fg iw)
  rw [← ewm] at c1 c2 c3
  have e1 : (tlF b v 0 v.wm).1 = (tlF b w 0 v.wm).1 := a1.trans c1.symm
  have t1 : (tlR v b).1 = (tlR w b).1 := by
    show nI (tlF b v 0 v.wm).1 * 2 = nI (tlF b w 0 w.wm).1 * 2
    rw [← ewm, e1]
  have V2 : Rel (tlR v b).2 y (tlL b x 0 v.wm).2 := a2
  have V3 : Inv (tlR v b).2 T := a3
  have W2 : Rel (tlR w b).2 y (tlL b x 0 v.wm).2 := by
    have e : (tlR w b).2 = fgV (tlF b w 0 w.wm).2 (tlF b w 0 w.wm).1 := rfl
    rw [e, ← ewm]; exact c2
  have W3 : Inv (tlR w b).2 T := by
    have e : (tlR w b).2 = fgV (tlF b w 0 w.wm).2 (tlF b w 0 w.wm).1 := rfl
    rw [e, ← ewm]; exact c3
  have em : (tlR v b).2.wm = (tlR w b).2.wm := by
    have a := V2.2.2.2.2.2.2.2.2.2.1
    have c := W2.2.2.2.2.2.2.2.2.2.1
    rw [a] at c
    have l1 := V3.1.1
    have l2 := W3.1.1
    exact (nI_eq (by omega) (by omega)).mp c
  have key : (psA v b).1 = (psA w b).1 ∧ ∃ x1, Rel (psA v b).2 y x1 ∧ Rel (psA w b).2 y x1 ∧ Inv (psA v b).2 T ∧ Inv (psA w b).2 T := by
    by_cases z : (tlR v b).2.wm = 0
    · have z2 : (tlR w b).2.wm = 0 := em.symm.trans z
      rw [ps_1 z, ps_1 z2, ← t1]
      generalize (tlR v b).2 = v1 at V2 V3 z
      generalize (tlR w b).2 = w1 at W2 W3 z2
      generalize b - (tlR v b).1 = c
      generalize (tlL b x 0 v.wm).2 = x2 at V2 W2
      obtain ⟨s1, -, s3⟩ := piF_so v1 48 (Nat.le_refl _)
      obtain ⟨p1, p2, p3⟩ := rel_sa V2 V3 s1 s3 c
      have es : ∀ i, i < 48 → v1.since i = w1.since i := fun i h => (V2.2.2.1 i h).symm.trans (W2.2.2.1 i h)
      have eu : srt (piF v1 48).2.1 (unl w1) (piF v1 48).2.2 (piF v1 48).1 48 := by
        obtain ⟨u1, u2, u3⟩ := s1
        refine ⟨fun p hp => ?_, fun i i1 i2 => ?_, u3⟩
        · obtain ⟨i, i1, i2, i3⟩ := u1 p hp
          refine ⟨i, i1, i2, ?_⟩
          show ¬ w1.since i = -1
          rw [← es i i1]; exact i3
        · refine u2 i i1 ?_
          show ¬ v1.since i = -1
          rw [es i i1]; exact i2
      have ew : ∀ i, i < 48 → ¬ w1.since i = -1 → (piF v1 48).2.1 i = woI w1 i := fun i i1 i2 => by
        rw [s3 i i1 (by rw [es i i1]; exact i2)]
        have en : v1.now = w1.now := V2.2.2.2.2.2.2.2.1.symm.trans W2.2.2.2.2.2.2.2.1
        have el : v1.la = w1.la := by
          have a := V2.2.2.2.2.2.2.2.2.1
          have c := W2.2.2.2.2.2.2.2.2.1
          rw [a] at c
          have l1 := V3.1.2.2.2.1
          have l2 := W3.1.2.2.2.1
          exact (nI_eq (by omega) (by omega)).mp c
        unfold woI
        rw [en, el, es i i1]
      obtain ⟨o1, o2, o3⟩ := rel_sa W2 W3 eu ew c
      exact ⟨by rw [p1, o1], _, p2, o2, p3, o3⟩
    · have z2 : ¬ (tlR w b).2.wm = 0 := fun h => z (em.trans h)
      rw [ps_0 z, ps_0 z2]
      exact ⟨t1, _, V2, W2, V3, W3⟩
  obtain ⟨k1, x1, k2, k3, k4, k5⟩ := key
  obtain ⟨f1, f2⟩ := rel_fin k2 k4 hT (psA v b).1
  obtain ⟨g1, g2⟩ := rel_fin k3 k5 hT (psA w b).1
  exact ⟨k1, _, f1, g1, f2, g2⟩
