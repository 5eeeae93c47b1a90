/-! the steps that are told lead to screens that are alike -/
def Stk (w : SV) (c : Nat) : Prop := (0 < w.wm ∧ c < 2) ∨ (w.wm = 0 ∧ (∃ t, t < 48 ∧ ¬ w.since t = -1) ∧ ∀ t, t < 48 → ¬ w.since t = -1 → (stR w t (nI c)).1 = 0 ∧ ¬ kdI w t = 2)
theorem ps_none {w : SV} {c : Nat} (hc : c < 2 ^ 31) (h0 : w.wm = 0) : psA w (nI c) = saR (fgV w 0) (nI c) := by
  have e : tlF (nI c) w 0 w.wm = (0, w) := by
    rw [h0]
    rfl
  have er : tlR w (nI c) = (0, fgV w 0) := by
    unfold tlR tlV
    rw [e]
    show (nI 0 * 2, fgV w 0) = _
    rw [i_z2]
  unfold psA
  rw [er, if_pos (show (fgV w 0).wm = 0 by show w.wm - 0 = 0; omega)]
  show (0 + (saR (fgV w 0) (nI c - 0)).1, (saR (fgV w 0) (nI c - 0)).2) = _
  rw [Int32.sub_zero, Int32.zero_add]
theorem piV_cost (w : SV) (t : Nat) (x : Int32) : (stR (piV (fgV w 0) 48) t x).1 = (stR w t x).1 := by
  rw [stR_cost, stR_cost]
  rfl
theorem stk_from {w : SV} {c : Nat} (hc : c ≤ 300) (hw : w.wm ≤ 4) (h1 : alI w = 0) (h2 : (psA w (nI c)).1 = 0) (h3 : hfF w 0 48 = 0) : Stk w c := by
  rw [alI_0] at h1
  by_cases z : w.wm = 0
  · refine Or.inr ⟨z, usF_ex w (fun y => h1 ⟨z, y⟩), fun t t1 t2 => ⟨?_, hfF_0 w 48 0 h3 t (Nat.zero_le _) (by omega)⟩⟩
    rw [ps_none (by omega) z] at h2
    obtain ⟨⟨s1, s2, s3⟩, -, -⟩ := piF_so (fgV w 0) 48 (Nat.le_refl _)
    obtain ⟨p, p1, p2⟩ := s2 t t1 t2
    obtain ⟨k, k1, k2, k3⟩ := saF_d (piV (fgV w 0) 48) (c := c) (by omega) (piF (fgV w 0) 48).1
    have e : (saR (fgV w 0) (nI c)).1 = nI (c - k) := by
      show nI c - (saF (piV (fgV w 0) 48) (nI c) (piF (fgV w 0) 48).1).1 = _
      rw [k2]
      exact pk_sub k1
    rw [e] at h2
    have ek : c - k = 0 := (nI_eq (b := 0) (by omega) (by omega)).mp h2
    have g := (k3 (by omega)).2 p p1
    have ec : ((piV (fgV w 0) 48).order p).toNatClampNeg = t := by
      show ((piF (fgV w 0) 48).2.2 p).toNatClampNeg = t
      rw [p2]
      exact nI_clamp (by omega)
    rw [ec, piV_cost] at g
    exact g
  · refine Or.inl ⟨by omega, ?_⟩
    refine Nat.not_le.mp (fun y => ?_)
    have hx : ¬ nI c < 2 := fun q => absurd ((nI_ltI (a := c) (b := 2) (by omega) (by omega)).mp q) (by omega)
    obtain ⟨k, hk⟩ : ∃ k, w.wm = k + 1 := ⟨w.wm - 1, by omega⟩
    have e1 : tlF (nI c) w 0 w.wm = tlF (nI c) (nuV (afV w 0)) 1 k := by
      rw [hk]
      show (if nI c - nI 0 * 2 < 2 then (0, w) else tlF (nI c) (nuV (afV w 0)) (0 + 1) k) = _
      rw [i_00, if_neg hx]
    obtain ⟨-, -, -, b1, b2⟩ := tlF_keep (nI c) k (nuV (afV w 0)) 1
    rw [← e1] at b1 b2
    -- told n moves, 1 ≤ n ≤ 4, and the rest of the budget
    have hn2 : (tlF (nI c) w 0 w.wm).1 * 2 ≤ c := by
      have A : ∀ (k : Nat) (v : SV) (told : Nat), told + k ≤ 4 → told * 2 ≤ c → (tlF (nI c) v told k).1 * 2 ≤ c := by
        intro k
        induction k with
        | zero => intro v told _ h; exact h
        | succ k ih =>
          intro v told ht h
          show (if nI c - nI told * 2 < 2 then (told, v) else tlF (nI c) (nuV (afV v told)) (told + 1) k).1 * 2 ≤ c
          have em : nI told * 2 = nI (told * 2) := pk_mul told 2
          have es : nI c - nI (told * 2) = nI (c - told * 2) := pk_sub h
          rw [em, es]
          by_cases q : nI (c - told * 2) < 2
          · rw [if_pos q]; exact h
          · rw [if_neg q]
            have : ¬ c - told * 2 < 2 := fun r => q ((nI_ltI (a := c - told * 2) (b := 2) (by omega) (by omega)).mpr r)
            exact ih _ _ (by omega) (by omega)
      exact A w.wm w 0 (by omega) (by omega)
    generalize htn : (tlF (nI c) w 0 w.wm).1 = n at b1 b2 hn2
    have er : (tlR w (nI c)).1 = nI (n * 2) := by
      show nI (tlF (nI c) w 0 w.wm).1 * 2 = _
      rw [htn]
      exact pk_mul n 2
    have es : nI c - nI (n * 2) = nI (c - n * 2) := pk_sub hn2
    by_cases q : (tlR w (nI c)).2.wm = 0
    · have ep : (psA w (nI c)).1 = nI (n * 2) + (saR (tlR w (nI c)).2 (nI (c - n * 2))).1 := by
        unfold psA
        rw [if_pos q, er, es]
      obtain ⟨j, j1, j2, -⟩ := saF_d (piV (tlR w (nI c)).2 48) (c := c - n * 2) (by omega) (piF (tlR w (nI c)).2 48).1
      have e : (saR (tlR w (nI c)).2 (nI (c - n * 2))).1 = nI (c - n * 2 - j) := by
        show nI (c - n * 2) - (saF (piV (tlR w (nI c)).2 48) (nI (c - n * 2)) (piF (tlR w (nI c)).2 48).1).1 = _
        rw [j2]
        exact pk_sub j1
      rw [ep, e, nI_add] at h2
      have := (nI_eq (b := 0) (by omega) (by omega)).mp h2
      omega
    · have ep : (psA w (nI c)).1 = nI (n * 2) := by
        unfold psA
        rw [if_neg q, er]
      rw [ep] at h2
      have := (nI_eq (b := 0) (by omega) (by omega)).mp h2
      omega
theorem rel_wm {v w : SV} {y : Int32} {x : LV} {T : Nat} (hv : Rel v y x) (hw : Rel w y x) (iv : Inw v T) (iw : Inw w T) : v.wm = w.wm := by
  have a := hv.2.2.2.2.2.2.2.2.2.1
  have c := hw.2.2.2.2.2.2.2.2.2.1
  rw [a] at c
  have l1 := iv.1
  have l2 := iw.1
  exact (nI_eq (by omega) (by omega)).mp c
theorem al_two {v w : SV} {y : Int32} {x : LV} {T : Nat} (hv : Rel v y x) (hw : Rel w y x) (iv : Inw v T) (iw : Inw w T) : alI v = alI w := by
  unfold alI
  rw [rel_wm hv hw iv iw, us_mu, us_mu, muL_cong 48 (fun t ht => (hv.2.2.1 t ht).symm.trans (hw.2.2.1 t ht))]
theorem hf_cong {v w : SV} : ∀ k i, (∀ t, i ≤ t → t < i + k → kdI v t = kdI w t) → hfF v i k = hfF w i k := by
  intro k
  induction k with
  | zero => intro i _; rfl
  | succ k ih =>
    intro i h
    show (if kdI v i = 2 then 1 else hfF v (i + 1) k) = (if kdI w i = 2 then 1 else hfF w (i + 1) k)
    rw [h i (Nat.le_refl _) (by omega), ih (i + 1) (fun t t1 t2 => h t (by omega) (by omega))]
theorem hf_two {v w : SV} {y : Int32} {x : LV} (hv : Rel v y x) (hw : Rel w y x) : hfF v 0 48 = hfF w 0 48 :=
  hf_cong 48 0 (fun t _ ht => (kd_is hv (by omega)).symm.trans (kd_is hw (by omega)))
theorem rel_co {v : SV} {y : Int32} {x : LV} {T : Nat} (u : SV) (hr : Rel v y x) (hi : Inv v T) : Rel (coV u v) y x ∧ Inv (coV u v) T := by
  obtain ⟨r1, r2, r3, r4, r5, r6, r7, r8, r9, r10, r11, r12⟩ := hr
  obtain ⟨⟨q1, q2, q3, q4, q5, q6, q7, q8, ⟨N, n1, n2, n3⟩, hT⟩, hu⟩ := hi
  have c1 : ∀ t, t < 48 → (coV u v).near t = v.near t := fun t ht => fz_to_lt (f := v.near) (h := u.near) ht
  have c2 : ∀ t, t < 48 → (coV u v).far t = v.far t := fun t ht => fz_to_lt (f := v.far) (h := u.far) ht
  have c3 : ∀ t, t < 48 → (coV u v).since t = v.since t := fun t ht => fz_to_lt (f := v.since) (h := u.since) ht
  have c4 : ∀ t, t < 48 → (coV u v).ch t = v.ch t := fun t ht => fz_to_lt (f := v.ch) (h := u.ch) ht
  have c5 : ∀ j, j < v.wm → (coV u v).mv j = v.mv j := fun j hj => if_pos hj
  have c6 : ∀ j, j < v.kc → (coV u v).kp j = v.kp j := fun j hj => fz_to_lt (f := v.kp) (h := u.kp) (by omega)
  have c7 : ∀ j, j < 4 → (coV u v).sc j = v.sc j := fun j hj => fz_to_lt (f := v.sc) (h := u.sc) hj
  refine ⟨⟨fun t ht => (r1 t ht).trans (c1 t ht).symm, fun t ht => (r2 t ht).trans (c2 t ht).symm, fun t ht => (r3 t ht).trans (c3 t ht).symm, fun t ht => (r4 t ht).trans (c4 t ht).symm, fun j i hj hi => ?_, fun k hk => ?_, r7, r8, r9, r10, r11, fun k hk => (r12 k hk).trans (c7 k hk).symm⟩, ⟨q1, q2, fun j hj => ?_, q4, fun t ht => ?_, fun t ht => ?_, fun t ht => ?_, fun k hk => ?_, ⟨N, n1, n2, fun t ht => ?_⟩, hT⟩, fun t ht => ?_⟩
  · have hj : j < v.wm := hj
    rw [c5 j hj]; exact r5 j i hj hi
  · have hk : k < v.kc := hk
    rw [c6 k hk]; exact r6 k hk
  · have hj : j < v.wm := hj
    rw [c5 j hj]; exact q3 j hj
  · rw [c1 t ht]; exact q5 t ht
  · rw [c2 t ht]; exact q6 t ht
  · rw [c4 t ht]; exact q7 t ht
  · have hk : k < v.kc := hk
    rw [c6 k hk]; exact q8 k hk
  · rw [c3 t ht]; exact n3 t ht
  · rw [c1 t ht, c2 t ht, c3 t ht]; exact hu t ht
theorem stg_s (b : Int32) (u : SV) (n k : Nat) : stgF b u n (k + 1) = if alI u = 0 then (if (psA u b).1 = 0 ∧ hfF u 0 48 = 0 then (-1, psV u b) else stgF b (psV u b) (n + 1) k) else (nI n, u) := rfl
theorem stg_two (b : Int32) {y : Int32} : ∀ (k n T : Nat) (v w : SV) (x : LV), Rel v y x → Rel w y x → Inv v T → Inv w T → T + k + 1 < 2 ^ 20 → (stgF b v n k).1 = (stgF b w n k).1 := by
  intro k
  induction k with
  | zero =>
    intro n T v w x hv hw iv iw _
    show (if alI v = 0 then (-1 : Int32) else nI n) = (if alI w = 0 then -1 else nI n)
    rw [al_two hv hw iv.1 iw.1]
  | succ k ih =>
    intro n T v w x hv hw iv iw hT
    obtain ⟨p1, x1, p2, p3, p4, p5⟩ := two_step hv hw iv iw (by omega) b
    rw [stg_s, stg_s, al_two hv hw iv.1 iw.1, p1, hf_two hv hw]
    by_cases a : alI w = 0
    · rw [if_pos a, if_pos a]
      by_cases c : (psA w b).1 = 0 ∧ hfF w 0 48 = 0
      · rw [if_pos c, if_pos c]
      · rw [if_neg c, if_neg c]
        exact ih (n + 1) (T + 1) _ _ x1 p2 p3 p4 p5 (by omega)
    · rw [if_neg a, if_neg a]
/-- with 300 all is sent, films aside -/
theorem tl_300 : ∀ (k : Nat) (v : SV) (told : Nat), told + k ≤ 4 → (tlF 300 v told k).1 = told + k := by
  intro k
  induction k with
  | zero => intro v told _; rfl
  | succ k ih =>
    intro v told h
    show (if (300 : Int32) - nI told * 2 < 2 then (told, v) else tlF 300 (nuV (afV v told)) (told + 1) k).1 = _
    have e : (300 : Int32) - nI told * 2 = nI (300 - told * 2) := by
      have : nI told * 2 = nI (told * 2) := pk_mul told 2
      rw [this]
      exact pk_sub (a := 300) (by omega)
    have e2 : ¬ nI (300 - told * 2) < 2 := fun z => absurd ((nI_ltI (a := 300 - told * 2) (b := 2) (by omega) (by omega)).mp z) (by omega)
    rw [e, if_neg e2, ih _ _ (by omega)]
    omega
theorem stR_chn (v : SV) (t : Nat) (c : Int32) : (stR v t c).2.near = v.near ∧ (stR v t c).2.ch = v.ch := by
  have sp : ∀ w k, (spR v t w k c).2.near = v.near ∧ (spR v t w k c).2.ch = v.ch := by
    intro w k
    unfold spR
    split <;> exact ⟨rfl, rfl⟩
  have sr : (srR v t c).2.near = v.near ∧ (srR v t c).2.ch = v.ch := by
    unfold srR
    split
    · exact ⟨rfl, rfl⟩
    · split <;> exact ⟨rfl, rfl⟩
  unfold stR
  split
  · split
    · exact sr
    · exact sp _ _
  · exact sp _ _
theorem sp_sent (v : SV) (t w d k : Nat) (hd : d ≤ 6) (hk : 6 ≤ k) (hk2 : k < 2 ^ 31) : (spR v t w (nI d) (nI k)).1 = nI d ∧ (spR v t w (nI d) (nI k)).2.since t = -1 := by
  unfold spR
  rw [if_neg (fun z => absurd ((nI_ltI (a := k) (b := d) hk2 (by omega)).mp z) (by omega))]
  exact ⟨rfl, pk_us⟩
theorem st_sent (v : SV) (t k : Nat) (hk : 6 ≤ k) (hk2 : k < 2 ^ 31) (hf : ¬ kdI v t = 2) : ∃ d, d ≤ 6 ∧ (stR v t (nI k)).1 = nI d ∧ (stR v t (nI k)).2.since t = -1 := by
  unfold stR
  by_cases a : plcF v.kp (v.near t) 0 v.kc = -1
  · rw [if_pos a, if_neg hf]
    unfold wcI
    by_cases z : v.near t < 64
    · rw [if_pos z]; exact ⟨2, by omega, sp_sent v t 3 2 k (by omega) hk hk2⟩
    · rw [if_neg z]; exact ⟨6, by omega, sp_sent v t 3 6 k (by omega) hk hk2⟩
  · rw [if_neg a]; exact ⟨1, by omega, sp_sent v t 1 1 k (by omega) hk hk2⟩
theorem sa_sent {v : SV} {n c : Nat} {w : Nat → Int32} {o : Nat → Int32} (hs : srt w (unl v) o n 48) (ho : ∀ p, p < n → v.order p = o p) (hf : ∀ t, t < 48 → ¬ kdI v t = 2) (hn : n ≤ 48) (hc : 6 * n ≤ c) (hc2 : c < 2 ^ 31) : ∀ p, p ≤ n → (∃ k, k ≤ c ∧ c ≤ k + 6 * p ∧ (saF v (nI c) p).1 = nI k) ∧ (saF v (nI c) p).2.near = v.near ∧ (saF v (nI c) p).2.ch = v.ch ∧ (saF v (nI c) p).2.order = v.order ∧ (∀ q, q < p → ∀ i, i < 48 → o q = nI i → (saF v (nI c) p).2.since i = -1) ∧ ∀ i, i < 48 → v.since i = -1 → (saF v (nI c) p).2.since i = -1 := by
  intro p
  induction p with
  | zero => intro _; exact ⟨⟨c, by omega, by omega, rfl⟩, rfl, rfl, rfl, fun q hq => absurd hq (Nat.not_lt_zero _), fun i _ h => h⟩
  | succ p ih =>
    intro hp
    obtain ⟨⟨k, g1, g2, g3⟩, h2, h3, h4, h5, h6⟩ := ih (by omega)
    obtain ⟨i, i1, i2, i3⟩ := hs.1 p (by omega)
    have e1 : saF v (nI c) (p + 1) = ((saF v (nI c) p).1 - (stR (saF v (nI c) p).2 ((saF v (nI c) p).2.order p).toNatClampNeg (saF v (nI c) p).1).1, (stR (saF v (nI c) p).2 ((saF v (nI c) p).2.order p).toNatClampNeg (saF v (nI c) p).1).2) := rfl
    have ei : (o p).toNatClampNeg = i := by rw [i2]; exact nI_clamp (by omega)
    rw [e1, h4, ho p (by omega), ei, g3]
    have hfk : ¬ kdI (saF v (nI c) p).2 i = 2 := by
      unfold kdI
      rw [h2, h3]
      exact hf i i1
    obtain ⟨d, d1, d2, d3⟩ := st_sent (saF v (nI c) p).2 i k (by omega) (by omega) hfk
    obtain ⟨n1, n2⟩ := stR_chn (saF v (nI c) p).2 i (nI k)
    refine ⟨⟨k - d, by omega, by omega, ?_⟩, n1.trans h2, n2.trans h3, (stR_ord _ _ _).1.trans h4, fun q hq j hj ej => ?_, fun j hj hj2 => ?_⟩
    · show nI k - _ = _
      rw [d2]
      exact pk_sub (by omega)
    · by_cases z : j = i
      · rw [z]; exact d3
      · rw [stR_since _ _ _ z]
        refine h5 q ?_ j hj ej
        rcases (show q < p ∨ q = p by omega) with y | y
        · exact y
        · rw [y, i2] at ej
          exact absurd ((nI_eq (by omega) (by omega)).mp ej).symm z
    · by_cases z : j = i
      · rw [z]; exact d3
      · rw [stR_since _ _ _ z]
        exact h6 j hj hj2
theorem all_sent {v : SV} {y : Int32} {x : LV} {T : Nat} (hr : Rel v y x) (hi : Inv v T) (hf : ∀ t, t < 48 → ¬ kdI v t = 2) : ¬ alI (psV v 300) = 0 := by
  have hw : v.wm ≤ 4 := hi.1.1
  have e0 : (tlF 300 v 0 v.wm).1 = v.wm := by
    have := tl_300 v.wm v 0 (by omega)
    omega
  have et : (tlR v 300).1 = nI (v.wm * 2) := by
    show nI (tlF 300 v 0 v.wm).1 * 2 = _
    rw [e0]
    exact pk_mul v.wm 2
  obtain ⟨-, -, t3⟩ := rel_tell 300 v.wm v x 0 (by omega) (rel_fg hr) (inv_fg hi)
  have t3 : Inv (tlR v 300).2 T := t3
  obtain ⟨-, k2, -, -, -⟩ := tlF_keep 300 v.wm v 0
  have z : (tlR v 300).2.wm = 0 := by
    show (tlF 300 v 0 v.wm).2.wm - (tlF 300 v 0 v.wm).1 = 0
    rw [k2, e0]
    exact Nat.sub_self _
  have ec : (300 : Int32) - (tlR v 300).1 = nI (300 - v.wm * 2) := by
    rw [et]
    exact pk_sub (a := 300) (by omega)
  -- kinds are as before
  have tk : ∀ (k : Nat) (u : SV) (told : Nat), (tlF 300 u told k).2.near = u.near ∧ (tlF 300 u told k).2.ch = u.ch := by
    intro k
    induction k with
    | zero => intro u told; exact ⟨rfl, rfl⟩
    | succ k ih =>
      intro u told
      show (if (300 : Int32) - nI told * 2 < 2 then (told, u) else tlF 300 (nuV (afV u told)) (told + 1) k).2.near = _ ∧ (if (300 : Int32) - nI told * 2 < 2 then (told, u) else tlF 300 (nuV (afV u told)) (told + 1) k).2.ch = _
      split
      · exact ⟨rfl, rfl⟩
      · exact ih (nuV (afV u told)) (told + 1)
  obtain ⟨tk1, tk2⟩ := tk v.wm v 0
  have hf1 : ∀ t, t < 48 → ¬ kdI (piV (tlR v 300).2 48) t = 2 := fun t ht h => by
    refine hf t ht ?_
    have e : kdI (piV (tlR v 300).2 48) t = if bcI ((tlF 300 v 0 v.wm).2.ch t) < 4 then (if (tlF 300 v 0 v.wm).2.near t < 64 then 0 else 1) else 2 := rfl
    rw [e, tk1, tk2] at h
    exact h
  obtain ⟨s1, s2, s3⟩ := piF_so (tlR v 300).2 48 (Nat.le_refl _)
  obtain ⟨-, -, -, -, g5, g6⟩ := sa_sent (v := piV (tlR v 300).2 48) (c := 300 - v.wm * 2) s1 (fun p _ => rfl) hf1 s2 (by omega) (by omega) (piF (tlR v 300).2 48).1 (Nat.le_refl _)
  rw [alI_0]
  refine fun h => h ⟨?_, ?_⟩
  · show (psA v 300).2.wm = 0
    rw [ps_1 z]
    show (saF (piV (tlR v 300).2 48) (300 - (tlR v 300).1) (piF (tlR v 300).2 48).1).2.wm = 0
    rw [(saF_mv _ _ _).1]
    exact z
  · rw [us_mu]
    refine muL_0 _ 48 (fun i i1 => ?_)
    show (psA v 300).2.since i = -1
    rw [ps_1 z, ec]
    show (saF (piV (tlR v 300).2 48) (nI (300 - v.wm * 2)) (piF (tlR v 300).2 48).1).2.since i = -1
    by_cases c : (tlR v 300).2.since i = -1
    · exact g6 i i1 c
    · obtain ⟨p, p1, p2⟩ := s1.2.1 i i1 c
      exact g5 p p1 i i1 p2
/-- films fade -/
def Fdd (v : SV) (d : Nat) : Prop := ∀ t, t < 48 → ∃ c, c < 256 ∧ v.ch t = nI c ∧ popB 8 (c * 2 ^ d % 256) < 4
theorem fd_5 : ∀ c : Fin 256, popB 8 (c.val * 2 ^ 5 % 256) < 4 := by decide +kernel
theorem fd_of {v : SV} {T : Nat} (hi : Inw v T) : Fdd v 5 := by
  intro t ht
  obtain ⟨k, hk, e⟩ := hi.2.2.2.2.2.2.1 t ht
  exact ⟨k, hk, e, fd_5 ⟨k, hk⟩⟩
theorem fd_kd {v : SV} {d : Nat} (h : Fdd v d) (hd : d = 0) : ∀ t, t < 48 → ¬ kdI v t = 2 := by
  intro t ht z
  obtain ⟨c, c1, c2, c3⟩ := h t ht
  have z := kd_2.mp z
  rw [c2] at z
  have e : bcI (nI c) = nI (popB 8 c) := pop_bc ⟨c, c1⟩
  rw [hd, Nat.pow_zero, Nat.mul_one, Nat.mod_eq_of_lt c1] at c3
  rw [e] at z
  exact z ((nI_ltI (a := popB 8 c) (b := 4) (by omega) (by omega)).mpr c3)
theorem ps_ch {v : SV} {y : Int32} {x : LV} {T : Nat} (hr : Rel v y x) (hi : Inv v T) (b : Int32) : ∀ t, t < 48 → (psV v b).ch t = v.ch t <<< ((1 : Int32) &&& 31) &&& 255 := by
  intro t ht
  have e : (psV v b).ch t = (psA v b).2.ch t <<< ((1 : Int32) &&& 31) &&& 255 := fz_to_lt (f := fun t => (psA v b).2.ch t <<< ((1 : Int32) &&& 31) &&& 255) (h := (psA v b).2.ch) ht
  have tk : ∀ (k : Nat) (u : SV) (told : Nat), (tlF b u told k).2.ch = u.ch := by
    intro k
    induction k with
    | zero => intro u told; rfl
    | succ k ih =>
      intro u told
      show (if b - nI told * 2 < 2 then (told, u) else tlF b (nuV (afV u told)) (told + 1) k).2.ch = _
      split
      · rfl
      · exact ih (nuV (afV u told)) (told + 1)
  have sk : ∀ (u : SV) (c : Int32) (p : Nat), (saF u c p).2.ch = u.ch := by
    intro u c p
    induction p with
    | zero => rfl
    | succ p ih => exact (stR_chn _ _ _).2.trans ih
  have ek : (psA v b).2.ch = v.ch := by
    have tl : (tlR v b).2.ch = v.ch := tk v.wm v 0
    by_cases z : (tlR v b).2.wm = 0
    · rw [ps_1 z]
      show (saF (piV (tlR v b).2 48) _ _).2.ch = _
      rw [sk]
      exact tl
    · rw [ps_0 z]; exact tl
  rw [e, ek]
theorem fd_next {v : SV} {y : Int32} {x : LV} {T d : Nat} (hr : Rel v y x) (hi : Inv v T) (h : Fdd v (d + 1)) (b : Int32) : Fdd (psV v b) d := by
  intro t ht
  obtain ⟨c, c1, c2, c3⟩ := h t ht
  refine ⟨2 * c % 256, Nat.mod_lt _ (by omega), ?_, ?_⟩
  · rw [ps_ch hr hi b t ht, c2]
    exact sh_all ⟨c, c1⟩
  · have e : 2 * c % 256 * 2 ^ d % 256 = c * 2 ^ (d + 1) % 256 := by
      rw [Nat.mod_mul_mod, Nat.pow_succ, Nat.mul_comm 2 c, Nat.mul_assoc, Nat.mul_comm 2 (2 ^ d)]
    rw [e]; exact c3
def itV (v : SV) : Nat → SV
  | 0 => v
  | k + 1 => itV (psV v 300) k
theorem rel_ps {v : SV} {y : Int32} {x : LV} {T : Nat} (hr : Rel v y x) (hi : Inv v T) (hT : T + 1 < 2 ^ 20) (b : Int32) : ∃ x1, Rel (psV v b) y x1 ∧ Inv (psV v b) (T + 1) := by
  obtain ⟨-, x1, p2, -, p4, -⟩ := two_step hr hr hi hi hT b
  exact ⟨x1, p2, p4⟩
theorem hf_of {v : SV} : hfF v 0 48 = 0 → ∀ t, t < 48 → ¬ kdI v t = 2 := fun h t ht => hfF_0 v 48 0 h t (Nat.zero_le _) (by omega)
theorem spends {v : SV} {T : Nat} (hi : Inv v T) (h1 : alI v = 0) (h3 : hfF v 0 48 = 0) : ¬ (psA v 300).1 = 0 := by
  intro h2
  have k := stk_from (c := 300) (Nat.le_refl _) hi.1.1 h1 h2 h3
  rcases k with ⟨-, k⟩ | ⟨k1, ⟨t, t1, t2⟩, k3⟩
  · exact absurd k (by decide)
  · obtain ⟨g1, g2⟩ := k3 t t1 t2
    obtain ⟨d, d1, d2, -⟩ := st_sent v t 300 (by decide) (by decide) g2
    have c := stR_cost v t (nI 300)
    rw [g1, if_neg g2] at c
    by_cases a : plcF v.kp (v.near t) 0 v.kc = -1
    · rw [if_pos a] at c
      unfold wcI at c
      by_cases z : v.near t < 64
      · rw [if_pos z] at c; exact absurd c (by decide)
      · rw [if_neg z] at c; exact absurd c (by decide)
    · rw [if_neg a] at c; exact absurd c (by decide)
theorem stg_go {y : Int32} : ∀ (d k n T : Nat) (v : SV) (x : LV), Rel v y x → Inv v T → Fdd v d → d + 2 ≤ k → T + d + 2 < 2 ^ 20 → ∃ j, j ≤ d + 1 ∧ (stgF 300 v n k).1 = nI (n + j) ∧ (∀ i, i < j → alI (itV v i) = 0) ∧ ¬ alI (itV v j) = 0 := by
  intro d
  induction d with
  | zero =>
    intro k n T v x hr hi hF hk hT
    obtain ⟨k1, rfl⟩ : ∃ k1, k = k1 + 1 + 1 := ⟨k - 2, by omega⟩
    rw [stg_s]
    by_cases a : alI v = 0
    · have hf := fd_kd hF rfl
      have a2 : ¬ alI (psV v 300) = 0 := all_sent hr hi hf
      have a3 : hfF v 0 48 = 0 := by
        have A : ∀ k i, i + k ≤ 48 → hfF v i k = 0 := by
          intro k
          induction k with
          | zero => intro i _; rfl
          | succ k ih =>
            intro i h
            show (if kdI v i = 2 then 1 else hfF v (i + 1) k) = 0
            rw [if_neg (hf i (by omega)), ih (i + 1) (by omega)]
        exact A 48 0 (by omega)
      rw [if_pos a, if_neg (fun h => spends hi a a3 h.1), stg_s, if_neg a2]
      refine ⟨1, by omega, rfl, fun i h => ?_, a2⟩
      rw [show i = 0 by omega]; exact a
    · rw [if_neg a]
      exact ⟨0, by omega, rfl, fun i h => absurd h (Nat.not_lt_zero _), a⟩
  | succ d ih =>
    intro k n T v x hr hi hF hk hT
    obtain ⟨k1, rfl⟩ : ∃ k1, k = k1 + 1 := ⟨k - 1, by omega⟩
    rw [stg_s]
    by_cases a : alI v = 0
    · obtain ⟨x1, p1, p2⟩ := rel_ps hr hi (by omega) 300
      obtain ⟨j, j1, j2, j3, j4⟩ := ih k1 (n + 1) (T + 1) (psV v 300) x1 p1 p2 (fd_next hr hi hF 300) (by omega) (by omega)
      rw [if_pos a, if_neg (fun h => spends hi a h.2 h.1)]
      refine ⟨j + 1, by omega, by rw [j2, show n + 1 + j = n + (j + 1) by omega], fun i h => ?_, j4⟩
      rcases (show i = 0 ∨ ∃ i2, i = i2 + 1 from (by
        cases i with
        | zero => exact Or.inl rfl
        | succ i => exact Or.inr ⟨i, rfl⟩)) with z | ⟨i2, z⟩
      · rw [z]; exact a
      · rw [z]
        exact j3 i2 (by omega)
    · rw [if_neg a]
      exact ⟨0, by omega, rfl, fun i h => absurd h (Nat.not_lt_zero _), a⟩
/-- the steps that are told -/
theorem stg_end {v : SV} {y : Int32} {x : LV} {T : Nat} (u : SV) (hr : Rel v y x) (hi : Inv v T) (hT : T + 200 < 2 ^ 20) : ∃ j, j ≤ 6 ∧ (stgF 300 (coV u v) 0 100).1 = nI j ∧ (∀ i, i < j → alI (itV v i) = 0) ∧ ¬ alI (itV v j) = 0 := by
  obtain ⟨c1, c2⟩ := rel_co u hr hi
  rw [stg_two 300 100 0 T (coV u v) v x c1 hr c2 hi (by omega)]
  obtain ⟨j, j1, j2, j3, j4⟩ := stg_go 5 100 0 T v x hr hi (fd_of hi.1) (by omega) (by omega)
  exact ⟨j, j1, by rw [j2, Nat.zero_add], j3, j4⟩
theorem stg_now {v : SV} {y : Int32} {x : LV} {T : Nat} (u : SV) (hr : Rel v y x) (hi : Inv v T) (b : Int32) (h : ¬ alI v = 0) : (stgF b (coV u v) 0 100).1 = 0 := by
  obtain ⟨c1, c2⟩ := rel_co u hr hi
  have e : alI (coV u v) = alI v := al_two c1 hr c2.1 hi.1
  rw [stg_s, e, if_neg h]
  rfl
