/-! a step that sends nothing, and can't send anything later -/
theorem stR_cost (v : SV) (t : Nat) (x : Int32) : (stR v t x).1 = if plcF v.kp (v.near t) 0 v.kc = -1 then (if kdI v t = 2 then (if x < 2 then 0 else if v.far t = roI v t then 0 else 2) else if x < wcI (v.near t) then 0 else wcI (v.near t)) else if x < 1 then 0 else 1 := by
  unfold stR srR spR
  split
  · split
    · split
      · rfl
      · split <;> rfl
    · split <;> rfl
  · split <;> rfl
theorem i_d0 {c d : Nat} {x : Int32} (hc : c < 2 ^ 31) (hd : 0 < d) (hd2 : d < 2 ^ 31) (e : x = nI d) : (nI c < x → (0 : Int32) = nI 0) ∧ (¬ nI c < x → d ≤ c) := by
  refine ⟨fun _ => rfl, fun h => ?_⟩
  rw [e] at h
  exact Nat.not_lt.mp (fun z => h ((nI_ltI hc hd2).mpr z))
theorem wc_nat (x : Int32) : ∃ d, 0 < d ∧ d < 10 ∧ wcI x = nI d := by
  unfold wcI
  split
  · exact ⟨2, by omega, by omega, rfl⟩
  · exact ⟨6, by omega, by omega, rfl⟩
theorem spR_d (v : SV) (t w : Nat) {cost : Int32} {c : Nat} (hc : c < 2 ^ 31) (hd : ∃ d, 0 < d ∧ d < 10 ∧ cost = nI d) : ∃ d, d ≤ c ∧ (spR v t w cost (nI c)).1 = nI d ∧ (d = 0 → (spR v t w cost (nI c)).2 = v) := by
  obtain ⟨d, d0, d1, e⟩ := hd
  unfold spR
  by_cases z : nI c < cost
  · rw [if_pos z]
    exact ⟨0, Nat.zero_le _, rfl, fun _ => rfl⟩
  · rw [if_neg z]
    exact ⟨d, (i_d0 hc d0 (by omega) e).2 z, e, fun k => by omega⟩
theorem stR_d (v : SV) (t : Nat) {c : Nat} (hc : c < 2 ^ 31) : ∃ d, d ≤ c ∧ (stR v t (nI c)).1 = nI d ∧ (d = 0 → (stR v t (nI c)).2 = v) := by
  unfold stR
  by_cases a : plcF v.kp (v.near t) 0 v.kc = -1
  · rw [if_pos a]
    by_cases b : kdI v t = 2
    · rw [if_pos b]
      unfold srR
      by_cases z : nI c < 2
      · rw [if_pos z]
        exact ⟨0, Nat.zero_le _, rfl, fun _ => rfl⟩
      · rw [if_neg z]
        by_cases y : v.far t = roI v t
        · rw [if_pos y]
          exact ⟨0, Nat.zero_le _, rfl, fun _ => rfl⟩
        · rw [if_neg y]
          exact ⟨2, (i_d0 (x := 2) (d := 2) hc (by omega) (by omega) rfl).2 z, rfl, fun k => by omega⟩
    · rw [if_neg b]
      exact spR_d v t 3 hc (wc_nat _)
  · rw [if_neg a]
    exact spR_d v t 1 hc ⟨1, by omega, by omega, rfl⟩
theorem saF_d (v : SV) {c : Nat} (hc : c < 2 ^ 31) : ∀ p, ∃ k, k ≤ c ∧ (saF v (nI c) p).1 = nI k ∧ (k = c → (saF v (nI c) p).2 = v ∧ ∀ q, q < p → (stR v (v.order q).toNatClampNeg (nI c)).1 = 0) := by
  intro p
  induction p with
  | zero => exact ⟨c, Nat.le_refl _, rfl, fun _ => ⟨rfl, fun q hq => absurd hq (Nat.not_lt_zero _)⟩⟩
  | succ p ih =>
    obtain ⟨k, k1, k2, k3⟩ := ih
    have e : saF v (nI c) (p + 1) = ((saF v (nI c) p).1 - (stR (saF v (nI c) p).2 ((saF v (nI c) p).2.order p).toNatClampNeg (saF v (nI c) p).1).1, (stR (saF v (nI c) p).2 ((saF v (nI c) p).2.order p).toNatClampNeg (saF v (nI c) p).1).2) := rfl
    rw [e, k2]
    obtain ⟨d, d1, d2, d3⟩ := stR_d (saF v (nI c) p).2 ((saF v (nI c) p).2.order p).toNatClampNeg (c := k) (by omega)
    refine ⟨k - d, by omega, ?_, fun z => ?_⟩
    · show nI k - _ = _
      rw [d2]
      exact pk_sub d1
    · have h1 : k = c := by omega
      have h2 : d = 0 := by omega
      obtain ⟨g1, g2⟩ := k3 h1
      refine ⟨(d3 h2).trans g1, fun q hq => ?_⟩
      rcases (show q < p ∨ q = p by omega) with y | y
      · exact g2 q y
      · rw [y]
        rw [g1, h1, h2] at d2
        exact d2
theorem saF_0 (v : SV) (b : Int32) : ∀ p, (∀ q, q < p → (stR v (v.order q).toNatClampNeg b).1 = 0 ∧ (stR v (v.order q).toNatClampNeg b).2 = v) → saF v b p = (b, v) := by
  intro p
  induction p with
  | zero => intro _; rfl
  | succ p ih =>
    intro h
    have e : saF v b (p + 1) = ((saF v b p).1 - (stR (saF v b p).2 ((saF v b p).2.order p).toNatClampNeg (saF v b p).1).1, (stR (saF v b p).2 ((saF v b p).2.order p).toNatClampNeg (saF v b p).1).2) := rfl
    obtain ⟨h1, h2⟩ := h p (by omega)
    rw [e, ih (fun q hq => h q (by omega))]
    show (b - (stR v (v.order p).toNatClampNeg b).1, (stR v (v.order p).toNatClampNeg b).2) = _
    rw [h1, h2, Int32.sub_zero]
/-- nothing can be sent, now or later -/
def Stk (w : SV) (c : Nat) : Prop := (0 < w.wm ∧ c < 2) ∨ (w.wm = 0 ∧ (∃ t, t < 48 ∧ ¬ w.since t = -1) ∧ ∀ t, t < 48 → ¬ w.since t = -1 → (stR w t (nI c)).1 = 0 ∧ ¬ kdI w t = 2)
theorem bnF_0 (f : Nat → Int32) : ∀ n, bnF f n = 0 → ∀ t, t < n → f t = -1 := by
  intro n
  induction n with
  | zero => intro _ t ht; omega
  | succ n ih =>
    intro h t ht
    have h : bnF f n + (if f n = -1 then 0 else 1) = 0 := h
    by_cases z : f n = -1
    · rw [if_pos z] at h
      rcases (show t < n ∨ t = n by omega) with y | y
      · exact ih h t y
      · rw [y]; exact z
    · rw [if_neg z] at h
      omega
theorem muL_0 (f : Nat → Int32) : ∀ n, (∀ t, t < n → f t = -1) → muL f n = 0 := by
  intro n
  induction n with
  | zero => intro _; rfl
  | succ n ih =>
    intro h
    show (if f n = -1 then muL f n else muL f n ||| (1 <<< ((nI n).toInt64 &&& 63))) = 0
    rw [if_pos (h n (by omega))]
    exact ih (fun t ht => h t (by omega))
theorem bcL_00 : bcL 0 = 0 := by decide +kernel
theorem usF_bn (w : SV) : usF w 48 = 0 ↔ bnF w.since 48 = 0 := by
  refine ⟨fun h => ?_, fun h => ?_⟩
  · have k : bcL (usF w 48) = nI (bnF w.since 48) := by rw [us_mu, mu_bq _ 48 (Nat.le_refl _), bcL_bq]
    rw [h, bcL_00] at k
    have := bnF_le w.since 48
    exact ((nI_eq (a := 0) (by omega) (by omega)).mp k).symm
  · rw [us_mu]
    exact muL_0 _ 48 (bnF_0 _ 48 h)
theorem usF_ex (w : SV) (h : ¬ usF w 48 = 0) : ∃ t, t < 48 ∧ ¬ w.since t = -1 := by
  refine Classical.byContradiction (fun z => h ?_)
  rw [us_mu]
  exact muL_0 _ 48 (fun t ht => Classical.byContradiction (fun y => z ⟨t, ht, y⟩))
theorem alI_0 (w : SV) : alI w = 0 ↔ ¬ (w.wm = 0 ∧ usF w 48 = 0) := by
  unfold alI
  by_cases a : w.wm = 0
  · rw [if_pos a]
    by_cases b : usF w 48 = 0
    · rw [if_pos b]
      exact ⟨fun z => absurd z (by decide), fun z => absurd ⟨a, b⟩ z⟩
    · rw [if_neg b]
      exact ⟨fun _ z => b z.2, fun _ => rfl⟩
  · rw [if_neg a]
    exact ⟨fun _ z => a z.1, fun _ => rfl⟩
theorem stk_al {w : SV} {c : Nat} (h : Stk w c) : alI w = 0 := by
  rw [alI_0]
  intro z
  rcases h with ⟨h1, -⟩ | ⟨h1, ⟨t, t1, t2⟩, -⟩
  · omega
  · exact t2 (bnF_0 _ 48 ((usF_bn w).mp z.2) t t1)
set_option maxRecDepth 100000 in
theorem bc_sh : ∀ k : Fin 256, bcI (nI k.val) < 4 → bcI ((nI k.val) <<< ((1 : Int32) &&& 31) &&& 255) < 4 := by decide +kernel
theorem kd_2 {w : SV} {t : Nat} : kdI w t = 2 ↔ ¬ bcI (w.ch t) < 4 := by
  unfold kdI
  by_cases a : bcI (w.ch t) < 4
  · rw [if_pos a]
    refine ⟨fun z => ?_, fun z => absurd a z⟩
    by_cases b : w.near t < 64
    · rw [if_pos b] at z
      exact absurd z (by decide)
    · rw [if_neg b] at z
      exact absurd z (by decide)
  · rw [if_neg a]
    exact ⟨fun _ => a, fun _ => rfl⟩
theorem i_00 (b : Int32) : b - nI 0 * 2 = b := by
  show b - 0 * 2 = b
  grind
theorem i_z2 : nI 0 * 2 = 0 := by decide
/-- the rows of a step that sends nothing -/
theorem ps_wait {w : SV} {c : Nat} (h0 : 0 < w.wm) (hc : c < 2) : psA w (nI c) = (0, fgV w 0) := by
  have hx : nI c < 2 := (nI_ltI (a := c) (b := 2) (by omega) (by omega)).mpr hc
  obtain ⟨k, hk⟩ : ∃ k, w.wm = k + 1 := ⟨w.wm - 1, by omega⟩
  have e : tlF (nI c) w 0 w.wm = (0, w) := by
    rw [hk]
    show (if nI c - nI 0 * 2 < 2 then (0, w) else tlF (nI c) (nuV (afV w 0)) (0 + 1) k) = _
    rw [i_00, if_pos hx]
  have er : tlR w (nI c) = (0, fgV w 0) := by
    unfold tlR tlV
    rw [e]
    show (nI 0 * 2, fgV w 0) = _
    rw [i_z2]
  unfold psA
  rw [er, if_neg (show ¬ (fgV w 0).wm = 0 by show ¬ w.wm - 0 = 0; omega)]
theorem ps_none {w : SV} {c : Nat} (hc : c < 2 ^ 31) (h0 : w.wm = 0) : psA w (nI c) = saR (fgV w 0) (nI c) := by
  have e : tlF (nI c) w 0 w.wm = (0, w) := by
    rw [h0]
    rfl
  have er : tlR w (nI c) = (0, fgV w 0) := by
    unfold tlR tlV
    rw [e]
    show (nI 0 * 2, fgV w 0) = _
    rw [i_z2]
  unfold psA
  rw [er, if_pos (show (fgV w 0).wm = 0 by show w.wm - 0 = 0; omega)]
  show (0 + (saR (fgV w 0) (nI c - 0)).1, (saR (fgV w 0) (nI c - 0)).2) = _
  rw [Int32.sub_zero, Int32.zero_add]
theorem piV_cost (w : SV) (t : Nat) (x : Int32) : (stR (piV (fgV w 0) 48) t x).1 = (stR w t x).1 := by
  rw [stR_cost, stR_cost]
  rfl
theorem sa_none {w : SV} {c : Nat} (hc : c < 2 ^ 31) (h : ∀ t, t < 48 → ¬ w.since t = -1 → (stR w t (nI c)).1 = 0) : saR (fgV w 0) (nI c) = (0, piV (fgV w 0) 48) := by
  obtain ⟨⟨s1, s2, s3⟩, -, -⟩ := piF_so (fgV w 0) 48 (Nat.le_refl _)
  have key := saF_0 (piV (fgV w 0) 48) (nI c) (piF (fgV w 0) 48).1 (fun q hq => by
    obtain ⟨i, i1, i2, i3⟩ := s1 q hq
    have ec : ((piV (fgV w 0) 48).order q).toNatClampNeg = i := by
      show ((piF (fgV w 0) 48).2.2 q).toNatClampNeg = i
      rw [i2]
      exact nI_clamp (by omega)
    have k1 : (stR (piV (fgV w 0) 48) i (nI c)).1 = 0 := by
      rw [piV_cost]
      exact h i i1 i3
    obtain ⟨d, d1, d2, d3⟩ := stR_d (piV (fgV w 0) 48) i hc
    rw [k1] at d2
    rw [ec]
    exact ⟨k1, d3 ((nI_eq (a := 0) (by omega) (by omega)).mp d2).symm⟩)
  unfold saR
  rw [key]
  show (nI c - nI c, piV (fgV w 0) 48) = _
  rw [Int32.sub_self]
theorem stk_next {w : SV} {c : Nat} (hc : c < 2 ^ 31) (hch : ∀ t, t < 48 → ∃ k, k < 256 ∧ w.ch t = nI k) (h : Stk w c) : Stk (psV w (nI c)) c := by
  rcases h with ⟨h1, h2⟩ | ⟨h1, ⟨t, t1, t2⟩, h3⟩
  · refine Or.inl ⟨?_, h2⟩
    show 0 < (psA w (nI c)).2.wm
    rw [ps_wait h1 h2]
    show 0 < w.wm - 0
    omega
  · have e : psA w (nI c) = (0, piV (fgV w 0) 48) := by rw [ps_none hc h1, sa_none hc (fun i i1 i2 => (h3 i i1 i2).1)]
    have ev : psV w (nI c) = scV (unV (piV (fgV w 0) 48) 0) := by
      unfold psV
      rw [e]
    rw [ev]
    refine Or.inr ⟨?_, ⟨t, t1, t2⟩, fun i i1 i2 => ?_⟩
    · show w.wm - 0 = 0
      omega
    · obtain ⟨g1, g2⟩ := h3 i i1 i2
      obtain ⟨k, hk, ek⟩ := hch i i1
      have n1 : bcI (nI k) < 4 := by
        rw [← ek]
        exact Classical.byContradiction (fun z => g2 (kd_2.mpr z))
      have n2 : ¬ kdI (scV (unV (piV (fgV w 0) 48) 0)) i = 2 := by
        intro z
        have z := kd_2.mp z
        have ec : (scV (unV (piV (fgV w 0) 48) 0)).ch i = fz_to (fun t => w.ch t <<< ((1 : Int32) &&& 31) &&& 255) w.ch 48 i := rfl
        rw [ec, fz_to_lt i1, ek] at z
        exact z (bc_sh ⟨k, hk⟩ n1)
      refine ⟨?_, n2⟩
      rw [stR_cost] at g1 ⊢
      rw [if_neg g2] at g1
      rw [if_neg n2]
      exact g1
theorem hfF_0 (w : SV) : ∀ k i, hfF w i k = 0 → ∀ t, i ≤ t → t < i + k → ¬ kdI w t = 2 := by
  intro k
  induction k with
  | zero => intro i _ t h1 h2; omega
  | succ k ih =>
    intro i h t h1 h2
    have h : (if kdI w i = 2 then 1 else hfF w (i + 1) k) = 0 := h
    by_cases z : kdI w i = 2
    · rw [if_pos z] at h
      exact absurd h (by decide)
    · rw [if_neg z] at h
      rcases (show t = i ∨ i + 1 ≤ t by omega) with y | y
      · rw [y]; exact z
      · exact ih (i + 1) h t y (by omega)
theorem stk_from {w : SV} {c : Nat} (hc : c ≤ 300) (hw : w.wm ≤ 4) (h1 : alI w = 0) (h2 : (psA w (nI c)).1 = 0) (h3 : hfF w 0 48 = 0) : Stk w c := by
  rw [alI_0] at h1
  by_cases z : w.wm = 0
  · refine Or.inr ⟨z, usF_ex w (fun y => h1 ⟨z, y⟩), fun t t1 t2 => ⟨?_, hfF_0 w 48 0 h3 t (Nat.zero_le _) (by omega)⟩⟩
    rw [ps_none (by omega) z] at h2
    obtain ⟨⟨s1, s2, s3⟩, -, -⟩ := piF_so (fgV w 0) 48 (Nat.le_refl _)
    obtain ⟨p, p1, p2⟩ := s2 t t1 t2
    obtain ⟨k, k1, k2, k3⟩ := saF_d (piV (fgV w 0) 48) (c := c) (by omega) (piF (fgV w 0) 48).1
    have e : (saR (fgV w 0) (nI c)).1 = nI (c - k) := by
      show nI c - (saF (piV (fgV w 0) 48) (nI c) (piF (fgV w 0) 48).1).1 = _
      rw [k2]
      exact pk_sub k1
    rw [e] at h2
    have ek : c - k = 0 := (nI_eq (b := 0) (by omega) (by omega)).mp h2
    have g := (k3 (by omega)).2 p p1
    have ec : ((piV (fgV w 0) 48).order p).toNatClampNeg = t := by
      show ((piF (fgV w 0) 48).2.2 p).toNatClampNeg = t
      rw [p2]
      exact nI_clamp (by omega)
    rw [ec, piV_cost] at g
    exact g
  · refine Or.inl ⟨by omega, ?_⟩
    refine Nat.not_le.mp (fun y => ?_)
    have hx : ¬ nI c < 2 := fun q => absurd ((nI_ltI (a := c) (b := 2) (by omega) (by omega)).mp q) (by omega)
    obtain ⟨k, hk⟩ : ∃ k, w.wm = k + 1 := ⟨w.wm - 1, by omega⟩
    have e1 : tlF (nI c) w 0 w.wm = tlF (nI c) (nuV (afV w 0)) 1 k := by
      rw [hk]
      show (if nI c - nI 0 * 2 < 2 then (0, w) else tlF (nI c) (nuV (afV w 0)) (0 + 1) k) = _
      rw [i_00, if_neg hx]
    obtain ⟨-, -, -, b1, b2⟩ := tlF_keep (nI c) k (nuV (afV w 0)) 1
    rw [← e1] at b1 b2
    -- told n moves, 1 ≤ n ≤ 4, and the rest of the budget
    have hn2 : (tlF (nI c) w 0 w.wm).1 * 2 ≤ c := by
      have A : ∀ (k : Nat) (v : SV) (told : Nat), told + k ≤ 4 → told * 2 ≤ c → (tlF (nI c) v told k).1 * 2 ≤ c := by
        intro k
        induction k with
        | zero => intro v told _ h; exact h
        | succ k ih =>
          intro v told ht h
          show (if nI c - nI told * 2 < 2 then (told, v) else tlF (nI c) (nuV (afV v told)) (told + 1) k).1 * 2 ≤ c
          have em : nI told * 2 = nI (told * 2) := pk_mul told 2
          have es : nI c - nI (told * 2) = nI (c - told * 2) := pk_sub h
          rw [em, es]
          by_cases q : nI (c - told * 2) < 2
          · rw [if_pos q]; exact h
          · rw [if_neg q]
            have : ¬ c - told * 2 < 2 := fun r => q ((nI_ltI (a := c - told * 2) (b := 2) (by omega) (by omega)).mpr r)
            exact ih _ _ (by omega) (by omega)
      exact A w.wm w 0 (by omega) (by omega)
    generalize htn : (tlF (nI c) w 0 w.wm).1 = n at b1 b2 hn2
    have er : (tlR w (nI c)).1 = nI (n * 2) := by
      show nI (tlF (nI c) w 0 w.wm).1 * 2 = _
      rw [htn]
      exact pk_mul n 2
    have es : nI c - nI (n * 2) = nI (c - n * 2) := pk_sub hn2
    by_cases q : (tlR w (nI c)).2.wm = 0
    · have ep : (psA w (nI c)).1 = nI (n * 2) + (saR (tlR w (nI c)).2 (nI (c - n * 2))).1 := by
        unfold psA
        rw [if_pos q, er, es]
      obtain ⟨j, j1, j2, -⟩ := saF_d (piV (tlR w (nI c)).2 48) (c := c - n * 2) (by omega) (piF (tlR w (nI c)).2 48).1
      have e : (saR (tlR w (nI c)).2 (nI (c - n * 2))).1 = nI (c - n * 2 - j) := by
        show nI (c - n * 2) - (saF (piV (tlR w (nI c)).2 48) (nI (c - n * 2)) (piF (tlR w (nI c)).2 48).1).1 = _
        rw [j2]
        exact pk_sub j1
      rw [ep, e, nI_add] at h2
      have := (nI_eq (b := 0) (by omega) (by omega)).mp h2
      omega
    · have ep : (psA w (nI c)).1 = nI (n * 2) := by
        unfold psA
        rw [if_neg q, er]
      rw [ep] at h2
      have := (nI_eq (b := 0) (by omega) (by omega)).mp h2
      omega
