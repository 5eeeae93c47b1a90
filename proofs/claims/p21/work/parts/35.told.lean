/-! moves are told, on both sides -/
theorem sT_cong {m m' : Nat → Nat} (e : ∀ i, i < 6 → m i = m' i) (z : Nat) : sT m z = sT m' z ∧ dT m z = dT m' z := by
  unfold sT dT
  rw [e 0 (by omega), e 1 (by omega), e 2 (by omega), e 4 (by omega), e 5 (by omega)]
  exact ⟨rfl, rfl⟩
theorem shN_cong {m m' : Nat → Nat} (e : ∀ i, i < 6 → m i = m' i) (scr : Nat → Int32) : ∀ k, shN m scr k = shN m' scr k := by
  intro k
  induction k with
  | zero => rfl
  | succ k ih =>
    have ea : shA9 m k = shA9 m' k := by
      unfold shA9 dstN srcN
      rw [e 0 (by omega), e 1 (by omega), e 2 (by omega), e 3 (by omega), e 4 (by omega), e 5 (by omega)]
    show upd (shN m scr k) (dT m (shA9 m k)) (shN m scr k (sT m (shA9 m k))) = upd (shN m' scr k) (dT m' (shA9 m' k)) (shN m' scr k (sT m' (shA9 m' k)))
    rw [ih, ea, (sT_cong e _).1, (sT_cong e _).2]
/-- the law has told its first move -/
def tnL (x : LV) (m : Nat → Nat) : LV := LV.mk9 x.n (shN m x.f (m 2 * m 3)) (fz_to (fun t => luF (x.fS (shN m x.f (m 2 * m 3))) t (x.n t)) x.u 48) x.h (fz_to (fun k => x.w (k + 6)) x.w 18) x.kn (upd (upd x.gg 2 (x.gg 2 - 1)) 4 (x.gg 4 + 1))
theorem tnL_cong {m m' : Nat → Nat} (e : ∀ i, i < 6 → m i = m' i) (x : LV) : tnL x m = tnL x m' := by
  unfold tnL
  rw [shN_cong e, e 2 (by omega), e 3 (by omega)]
theorem fg_mv (v : SV) {told j : Nat} (h : j < v.wm - told) : (fgV v told).mv j = v.mv (told + j) := (fmF_at v.mv told (v.wm - told) j).1 h
theorem rel_fg {v : SV} {y : Int32} {x : LV} (hr : Rel v y x) : Rel (fgV v 0) y x := by
  obtain ⟨r1, r2, r3, r4, r5, r6, r7, r8, r9, r10, r11, r12⟩ := hr
  refine ⟨r1, r2, r3, r4, fun j i hj hi => ?_, r6, r7, r8, r9, r10, r11, fun k hk => ?_⟩
  · have hj : j < v.wm - 0 := hj
    rw [fg_mv v hj, Nat.zero_add]
    exact r5 j i (by omega) hi
  · show _ = upd v.sc 0 (v.sc 0 + nI 0) k
    by_cases z : k = 0
    · rw [z, pk_us, show nI 0 = 0 from rfl, Int32.add_zero]
      exact r12 0 (by omega)
    · rw [pk_un z]
      exact r12 k hk
theorem inv_fg {v : SV} {T : Nat} (h : Inv v T) : Inv (fgV v 0) T := by
  obtain ⟨⟨q1, q2, q3, q4, q5, q6, q7, q8, q9, hT⟩, hu⟩ := h
  refine ⟨⟨q1, q2, fun j hj => ?_, q4, q5, q6, q7, q8, q9, hT⟩, hu⟩
  have hj : j < v.wm - 0 := hj
  rw [fg_mv v hj, Nat.zero_add]
  exact q3 j (by omega)
theorem told_m {v : SV} {T told k : Nat} (hi : Inw (fgV v told) T) (hw : v.wm = told + (k + 1)) : MOK (v.mv told) ∧ 1 ≤ v.mv told 2 := by
  have h0 : 0 < v.wm - told := by omega
  have k := hi.2.2.1 0 h0
  rw [fg_mv v h0, Nat.add_zero] at k
  exact k
theorem told_w {v : SV} {y : Int32} {x : LV} {told k : Nat} (hr : Rel (fgV v told) y x) (hw : v.wm = told + (k + 1)) : ∀ i, i < 6 → x.w (0 + i) = nI (v.mv told i) := by
  intro i hi
  have h0 : 0 < v.wm - told := by omega
  have k := hr.2.2.2.2.1 0 i h0 hi
  rw [fg_mv v h0, Nat.add_zero, Nat.mul_zero] at k
  exact k
theorem rel_told {v : SV} {y : Int32} {x : LV} {T told k : Nat} (hr : Rel (fgV v told) y x) (hi : Inv (fgV v told) T) (hw : v.wm = told + (k + 1)) : Rel (fgV (nuV (afV v told)) (told + 1)) y (tnL x (v.mv told)) ∧ Inv (fgV (nuV (afV v told)) (told + 1)) T := by
  obtain ⟨hm, h1⟩ := told_m hi.1 hw
  obtain ⟨r1, r2, r3, r4, r5, r6, r7, r8, r9, r10, r11, r12⟩ := id hr
  have hge : ∀ t, t < 48 → (0 ≤ x.u t ↔ ¬ x.u t = -1) := fun t ht => by
    rw [r3 t ht]
    exact inv_ge hi.1 ht
  have hf : ∀ t, t < 48 → shN (v.mv told) x.f (v.mv told 2 * v.mv told 3) t = apF (v.mv told) v.far v.before t := shN_ap hm h1 x.f v.far v.before r2
  have w4 : v.wm ≤ 4 + told := by
    have : v.wm - told ≤ 4 := hi.1.1
    omega
  refine ⟨⟨r1, hf, fun t ht => ?_, r4, fun j i hj hi6 => ?_, r6, r7, ?_, ?_, ?_, ?_, fun j hj => ?_⟩, ?_⟩
  · have e : (fgV (nuV (afV v told)) (told + 1)).since t = if v.near t = apF (v.mv told) v.far v.before t then -1 else if v.since t = -1 then v.now else v.since t := nu_at (afV v told) ht
    rw [e]
    show fz_to (fun t => luF (x.fS (shN (v.mv told) x.f (v.mv told 2 * v.mv told 3))) t (x.n t)) x.u 48 t = _
    rw [fz_to_lt ht]
    show (if x.n t = shN (v.mv told) x.f (v.mv told 2 * v.mv told 3) t then -1 else if 0 ≤ x.u t then x.u t else x.gg 0) = _
    have r1t : x.n t = v.near t := r1 t ht
    have r3t : x.u t = v.since t := r3 t ht
    have r8t : x.gg 0 = v.now := r8
    have hg := hge t ht
    rw [r3t] at hg
    rw [hf t ht, r1t, r3t, r8t]
    by_cases a : v.near t = apF (v.mv told) v.far v.before t
    · rw [if_pos a, if_pos a]
    · rw [if_neg a, if_neg a]
      by_cases b : v.since t = -1
      · rw [if_pos b, if_neg (fun z => (hg.mp z) b)]
      · rw [if_neg b, if_pos (hg.mpr b)]
  · have hj : j < v.wm - (told + 1) := hj
    have e : (fgV (nuV (afV v told)) (told + 1)).mv j = v.mv (told + 1 + j) := fg_mv (nuV (afV v told)) hj
    rw [e]
    show fz_to (fun k => x.w (k + 6)) x.w 18 (6 * j + i) = _
    rw [fz_to_lt (by omega)]
    have hj1 : j + 1 < v.wm - told := by omega
    have k := r5 (j + 1) i hj1 hi6
    rw [fg_mv v hj1] at k
    rw [show told + 1 + j = told + (j + 1) by omega, ← k]
    show x.w (6 * j + i + 6) = _
    rw [show 6 * j + i + 6 = 6 * (j + 1) + i by omega]
  · show upd (upd x.gg 2 (x.gg 2 - 1)) 4 (x.gg 4 + 1) 0 = _
    rw [pk_un (by omega), pk_un (by omega)]; exact r8
  · show upd (upd x.gg 2 (x.gg 2 - 1)) 4 (x.gg 4 + 1) 1 = _
    rw [pk_un (by omega), pk_un (by omega)]; exact r9
  · show upd (upd x.gg 2 (x.gg 2 - 1)) 4 (x.gg 4 + 1) 2 = nI (v.wm - (told + 1))
    have r10 : x.gg 2 = nI (v.wm - told) := r10
    rw [pk_un (by omega), pk_us, r10, show v.wm - told = k + 1 by omega, show v.wm - (told + 1) = k by omega]
    exact nI_pred k
  · show upd (upd x.gg 2 (x.gg 2 - 1)) 4 (x.gg 4 + 1) 3 = _
    rw [pk_un (by omega), pk_un (by omega)]; exact r11
  · show upd (upd x.gg 2 (x.gg 2 - 1)) 4 (x.gg 4 + 1) (4 + j) = upd v.sc 0 (v.sc 0 + nI (told + 1)) j
    have k : x.gg (4 + j) = upd v.sc 0 (v.sc 0 + nI told) j := r12 j hj
    by_cases z : j = 0
    · rw [z] at k ⊢
      rw [pk_us] at k
      have k : x.gg 4 = v.sc 0 + nI told := k
      rw [pk_us, pk_us, k, ← nI_1, Int32.add_assoc]
    · rw [pk_un z] at k
      rw [pk_un (by omega), pk_un (by omega), pk_un z]
      exact k
  · have hq : Inw (fgV (afV v told) (told + 1)) T := by
      obtain ⟨q1, q2, q3, q4, q5, q6, q7, q8, q9, hT⟩ := id hi.1
      refine ⟨?_, q2, fun j hj => ?_, q4, q5, ?_, q7, q8, q9, hT⟩
      · show v.wm - (told + 1) ≤ 4
        omega
      · have hj : j < v.wm - (told + 1) := hj
        have e : (fgV (afV v told) (told + 1)).mv j = v.mv (told + 1 + j) := fg_mv (afV v told) hj
        have hj1 : j + 1 < v.wm - told := by omega
        have k := q3 (j + 1) hj1
        rw [fg_mv v hj1] at k
        rw [e, show told + 1 + j = told + (j + 1) by omega]
        exact k
      · exact apF_near hi.1 hm v.far 2000 q6 v.before
    exact inv_nu hq
/-- the law's telling -/
def mX (x : LV) : Nat → Nat := fun i => (x.w i).toNatClampNeg
def tlL (b : Int32) : LV → Nat → Nat → Nat × LV
  | x, told, 0 => (told, x)
  | x, told, k + 1 => if b - nI told * 2 < 2 then (told, x) else tlL b (tnL x (mX x)) (told + 1) k
theorem mX_is {v : SV} {y : Int32} {x : LV} {T told k : Nat} (hr : Rel (fgV v told) y x) (hi : Inw (fgV v told) T) (hw : v.wm = told + (k + 1)) : ∀ i, i < 6 → v.mv told i = mX x i := by
  intro i hi6
  obtain ⟨⟨a1, a2, a3, a4⟩, -⟩ := told_m hi hw
  have e := told_w hr hw i hi6
  rw [Nat.zero_add] at e
  have b : v.mv told i < 2 ^ 31 := by
    rcases (show i = 0 ∨ i = 1 ∨ i = 2 ∨ i = 3 ∨ i = 4 ∨ i = 5 by omega) with rfl | rfl | rfl | rfl | rfl | rfl <;> omega
  unfold mX
  rw [e, nI_clamp b]
theorem rel_tell {y : Int32} {T : Nat} (b : Int32) : ∀ (k : Nat) (v : SV) (x : LV) (told : Nat), v.wm = told + k → Rel (fgV v told) y x → Inv (fgV v told) T → (tlF b v told k).1 = (tlL b x told k).1 ∧ Rel (fgV (tlF b v told k).2 (tlF b v told k).1) y (tlL b x told k).2 ∧ Inv (fgV (tlF b v told k).2 (tlF b v told k).1) T := by
  intro k
  induction k with
  | zero => intro v x told _ hr hi; exact ⟨rfl, hr, hi⟩
  | succ k ih =>
    intro v x told hw hr hi
    have e1 : tlF b v told (k + 1) = if b - nI told * 2 < 2 then (told, v) else tlF b (nuV (afV v told)) (told + 1) k := rfl
    have e2 : tlL b x told (k + 1) = if b - nI told * 2 < 2 then (told, x) else tlL b (tnL x (mX x)) (told + 1) k := rfl
    rw [e1, e2]
    by_cases z : b - nI told * 2 < 2
    · rw [if_pos z, if_pos z]
      exact ⟨rfl, hr, hi⟩
    · rw [if_neg z, if_neg z]
      obtain ⟨k1, k2⟩ := rel_told hr hi hw
      rw [tnL_cong (mX_is hr hi.1 hw)] at k1
      exact ih (nuV (afV v told)) (tnL x (mX x)) (told + 1) (by show v.wm = _; omega) k1 k2
