/-! telling the moves that wait, on both sides -/
theorem apC_cong {f h : Nat → Nat} (e : ∀ i, i < 6 → f i = h i) (bef : Nat → Int32) (r : Nat) (scr : Nat → Int32) : ∀ c, apC f bef r scr c = apC h bef r scr c := by
  intro c
  induction c with
  | zero => rfl
  | succ c ih =>
    show upd (apC f bef r scr c) (8 * (f 5 + r) + (f 4 + c)) (bef (8 * (f 1 + r) + (f 0 + c))) = upd (apC h bef r scr c) (8 * (h 5 + r) + (h 4 + c)) (bef (8 * (h 1 + r) + (h 0 + c)))
    rw [ih, e 5 (by omega), e 4 (by omega), e 1 (by omega), e 0 (by omega)]
theorem apR_cong {f h : Nat → Nat} (e : ∀ i, i < 6 → f i = h i) (bef scr : Nat → Int32) : ∀ r, apR f bef scr r = apR h bef scr r := by
  intro r
  induction r with
  | zero => rfl
  | succ r ih =>
    show apC f bef r (apR f bef scr r) (f 2) = apC h bef r (apR h bef scr r) (h 2)
    rw [ih, e 2 (by omega), apC_cong e]
theorem apF_cong {f h : Nat → Nat} (e : ∀ i, i < 6 → f i = h i) (scr bef : Nat → Int32) : apF f scr bef = apF h scr bef := by
  unfold apF
  rw [e 3 (by omega), apR_cong e]
/-- what the class would be if it forgot the told ones at once -/
def fgV (v : SV) (told : Nat) : SV := tsV (fmV v told) told
theorem alk_fg {v : SV} {m : MV} (h : Alk v m) : Alk (fgV v 0) m := by
  obtain ⟨a1, a2, a3, a4, a5, a6, a7, a8, a9, a10, a11, a12, a13, a14, a15, a16⟩ := h
  refine ⟨a1, a2, a3, a4, a5, ?_, a7, fun j hj => ?_, a9, a10, a11, fun j hj => ?_, a13, a14, a15, a16⟩
  · show v.wm - 0 = m.moves
    rw [Nat.sub_zero]; exact a6
  · show MM1 m j (fmF v.mv 0 (v.wm - 0) j)
    rw [(fmF_at v.mv 0 (v.wm - 0) j).1 (by omega), Nat.zero_add]
    exact a8 j hj
  · show upd v.sc 0 (v.sc 0 + nI 0) j = m.sent j
    by_cases z : j = 0
    · rw [z, pk_us, show nI 0 = 0 from rfl, Int32.add_zero]
      exact a12 0 (by omega)
    · rw [pk_un z]
      exact a12 j hj
theorem told_one {v : SV} {m : MV} {K told : Nat} (h : Alk (fgV v told) m) (hi : Ivm m K) (hm : 1 ≤ m.moves) (hw : v.wm = told + m.moves) : Alk (fgV (nuV (afV v told)) (told + 1)) (mtW m) := by
  obtain ⟨a1, a2, a3, a4, a5, a6, a7, a8, a9, a10, a11, a12, a13, a14, a15, a16⟩ := id h
  have hmv : ∀ j, j < m.moves → MM1 m j (v.mv (told + j)) := fun j hj => by
    have k := a8 j hj
    have e : (fgV v told).mv j = fmF v.mv told (v.wm - told) j := rfl
    rw [e, (fmF_at v.mv told (v.wm - told) j).1 (by omega)] at k
    exact k
  obtain ⟨q, eq⟩ := hdJ_of (hmv 0 (by omega))
  obtain ⟨q1, q2, q3, q4, q5, q6⟩ := q
  obtain ⟨f1, f2⟩ := told_far h hi q5 q6
  have ec : apF (hdJ m) (fgV v told).far (fgV v told).before = apF (v.mv told) v.far v.before := apF_cong (fun i hi => by rw [eq i hi, Nat.add_zero]) _ _
  rw [ec] at f1 f2
  obtain ⟨r1, r2, r3, r4, r5, r6, r7, r8, r9⟩ := mtl_rest (mbV m m.far (8 * hdJ m 1 + hdJ m 0) (hdJ m 2) (hdJ m 2 * hdJ m 3)) (hdJ m) (hdJ m 2 * hdJ m 3)
  obtain ⟨t1, t2, t3, t4, t5⟩ := mtl_keep (mbV m m.far (8 * hdJ m 1 + hdJ m 0) (hdJ m 2) (hdJ m 2 * hdJ m 3)) (hdJ m) (hdJ m 2 * hdJ m 3)
  have r1 : (mtW m).near = m.near := r1
  have r2 : (mtW m).time = m.time := r2
  have r4 : (mtW m).ch = m.ch := r4
  have r5 : (mtW m).pics = m.pics := r5
  have r6 : (mtW m).known = m.known := r6
  have r7 : (mtA m (hdJ m)).sent = m.sent := r7
  have r8 : (mtW m).used = m.used := r8
  have r9 : (mtW m).look = m.look := r9
  have t5 : (mtA m (hdJ m)).moves = m.moves := t5
  have em : (mtW m).moves = m.moves - 1 := by
    show (mtA m (hdJ m)).moves - 1 = _
    rw [t5]
  have sh : ∀ j, j < m.moves - 1 → ∀ f : Nat → Int32, sh1 f ((mtA m (hdJ m)).moves - 1) j = f (j + 1) := fun j hj f => fz_to_lt (by omega)
  refine ⟨fun t ht => ?_, fun t ht => ?_, fun t ht => ?_, fun t ht => ?_, fun t ht => ?_, ?_, ?_, fun j hj => ?_, ?_, ?_, fun j hj => ?_, fun j hj => ?_, ?_, ?_, ?_, ?_⟩
  · rw [r1]; exact a1 t ht
  · exact f1 t ht
  · have k := f2 t ht
    show fz_to (nuF (afV v told)) v.since 48 t = (mtA m (hdJ m)).since t
    rw [fz_to_lt ht]
    exact k
  · rw [r4]; exact a4 t ht
  · rw [r4]; exact a5 t ht
  · rw [em]
    show v.wm - (told + 1) = m.moves - 1
    omega
  · rw [em]; omega
  · rw [em] at hj
    have e : (fgV (nuV (afV v told)) (told + 1)).mv j = fmF v.mv (told + 1) (v.wm - (told + 1)) j := rfl
    rw [e, (fmF_at v.mv (told + 1) (v.wm - (told + 1)) j).1 (by omega)]
    obtain ⟨b1, b2, b3, b4, b5⟩ := hmv (j + 1) (by omega)
    rw [show told + 1 + j = told + (j + 1) by omega]
    refine ⟨?_, ?_, ?_, ?_, b5⟩
    · show sh1 (mtA m (hdJ m)).mF ((mtA m (hdJ m)).moves - 1) j = _
      rw [sh j hj, show (mtA m (hdJ m)).mF = m.mF from t3]; exact b1
    · show sh1 (mtA m (hdJ m)).mT ((mtA m (hdJ m)).moves - 1) j = _
      rw [sh j hj, show (mtA m (hdJ m)).mT = m.mT from t1]; exact b2
    · show sh1 (mtA m (hdJ m)).mW ((mtA m (hdJ m)).moves - 1) j = _
      rw [sh j hj, show (mtA m (hdJ m)).mW = m.mW from t4]; exact b3
    · show sh1 (mtA m (hdJ m)).mH ((mtA m (hdJ m)).moves - 1) j = _
      rw [sh j hj, show (mtA m (hdJ m)).mH = m.mH from t2]; exact b4
  · rw [r5]; exact a9
  · rw [r5]; exact a10
  · rw [r5] at hj
    rw [r6]; exact a11 j hj
  · show upd v.sc 0 (v.sc 0 + nI (told + 1)) j = upd (mtA m (hdJ m)).sent 0 ((mtA m (hdJ m)).sent 0 + 1) j
    rw [r7]
    by_cases z : j = 0
    · have k : upd v.sc 0 (v.sc 0 + nI told) 0 = m.sent 0 := a12 0 (by omega)
      rw [pk_us] at k
      rw [z, pk_us, pk_us, ← k, ← nI_1, Int32.add_assoc]
    · have k : upd v.sc 0 (v.sc 0 + nI told) j = m.sent j := a12 j hj
      rw [pk_un z] at k
      rw [pk_un z, pk_un z]
      exact k
  · rw [r8]; exact a13
  · rw [r2]; exact a14
  · rw [r9]; exact a15
  · rw [r9]; exact a16
theorem ivm_tw {m : MV} {K : Nat} (h : Ivm m K) : Ivm (mtW m) K := ivm_tl (m := mbV m m.far (8 * hdJ m 1 + hdJ m 0) (hdJ m 2) (hdJ m 2 * hdJ m 3)) (hdJ m) h (hdJ m 2 * hdJ m 3)
theorem i_told (b : Int32) (told : Nat) : b - nI told * 2 + (-2) = b - nI (told + 1) * 2 := by
  rw [← nI_1]
  generalize nI told = x
  grind
theorem told_all {K : Nat} (b : Int32) : ∀ (k : Nat) (v : SV) (told : Nat) (m : MV), v.wm = told + k → k = m.moves → Alk (fgV v told) m → Ivm m K → (mpT m (b - nI told * 2) k).2 = b - nI (tlF b v told k).1 * 2 ∧ Alk (fgV (tlF b v told k).2 (tlF b v told k).1) (mpT m (b - nI told * 2) k).1 ∧ Ivm (mpT m (b - nI told * 2) k).1 K := by
  intro k
  induction k with
  | zero => intro v told m _ _ h hi; exact ⟨rfl, h, hi⟩
  | succ k ih =>
    intro v told m hw hk h hi
    have e1 : tlF b v told (k + 1) = if b - nI told * 2 < 2 then (told, v) else tlF b (nuV (afV v told)) (told + 1) k := rfl
    have e2 : mpT m (b - nI told * 2) (k + 1) = if b - nI told * 2 < 2 then (m, b - nI told * 2) else mpT (mtW m) (b - nI told * 2 + (-2)) k := rfl
    rw [e1, e2]
    by_cases z : b - nI told * 2 < 2
    · rw [if_pos z, if_pos z]
      exact ⟨rfl, h, hi⟩
    · rw [if_neg z, if_neg z, i_told]
      have A := told_one h hi (by omega) (by omega)
      refine ih (nuV (afV v told)) (told + 1) (mtW m) ?_ ?_ A (ivm_tw hi)
      · show v.wm = told + 1 + k
        omega
      · have k6 := A.2.2.2.2.2.1
        have k6 : v.wm - (told + 1) = (mtW m).moves := k6
        omega
theorem tell_alk {v : SV} {m : MV} {K : Nat} (h : Alk v m) (hi : Ivm m K) (b : Int32) : (mpT m b m.moves).2 = b - (tlR v b).1 ∧ Alk (tlR v b).2 (mpT m b m.moves).1 ∧ Ivm (mpT m b m.moves).1 K := by
  have ew : v.wm = m.moves := h.2.2.2.2.2.1
  have k := told_all b m.moves v 0 m (by rw [ew, Nat.zero_add]) rfl (alk_fg h) hi
  have e0 : b - nI 0 * 2 = b := by
    show b - 0 * 2 = b
    grind
  rw [e0] at k
  have e1 : tlR v b = (nI (tlF b v 0 m.moves).1 * 2, fgV (tlF b v 0 m.moves).2 (tlF b v 0 m.moves).1) := by rw [← ew]; rfl
  rw [e1]
  exact k
