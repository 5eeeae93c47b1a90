/-! moving a block keeps both sides alike -/
theorem move_tiles {v : SV} {m : MV} {K : Nat} {f : Nat → Nat} (ha : Alk v m) (hi : Ivm m K) (hm : MOK f) (h1 : 1 ≤ f 2) : ∀ t, t < 48 → (shV v f).near t = (mmA m f).near t ∧ (shV v f).since t = (mmA m f).since t ∧ (shV v f).ch t = (mmA m f).ch t ∧ ∃ k, k < 256 ∧ (mmA m f).ch t = nI k := by
  obtain ⟨a1, a2, a3, a4, a5, a6, a7, a8, a9, a10, a11, a12, a13, a14, -⟩ := ha
  obtain ⟨m1, m2, m3, m4⟩ := hm
  intro t ht
  have eu : mvU v.mv v.wm f v.wm = f := if_pos rfl
  have P := apR_at f (fz_to v.near v.before 48) v.near m3 (f 3) t
  have A := mml_at (mbV m m.near (8 * f 1 + f 0) (f 2) (f 2 * f 3)) (y := f 5) h1 m3 (f 2 * f 3) t
  rw [vis_inb h1] at A
  have eA : ∀ x, apF (mvU v.mv v.wm f v.wm) v.near v.before x = apR f (fz_to v.near v.before 48) v.near (f 3) x := fun x => by rw [eu]; rfl
  have en : (shV v f).near t = apF (mvU v.mv v.wm f v.wm) v.near v.before t := rfl
  have es : (shV v f).since t = fz_to (fun t => if apF (mvU v.mv v.wm f v.wm) v.near v.before t = v.far t then -1 else if v.since t = -1 then v.now else v.since t) v.since 48 t := rfl
  have ec : (shV v f).ch t = fz_to (fun t => if apF (mvU v.mv v.wm f v.wm) v.near v.before t = fz_to v.near v.before 48 t then v.ch t else v.ch t ||| 1) v.ch 48 t := rfl
  rw [fz_to_lt ht] at es ec
  have es : (shV v f).since t = (if apF (mvU v.mv v.wm f v.wm) v.near v.before t = v.far t then -1 else if v.since t = -1 then v.now else v.since t) := es
  have ec : (shV v f).ch t = (if apF (mvU v.mv v.wm f v.wm) v.near v.before t = fz_to v.near v.before 48 t then v.ch t else v.ch t ||| 1) := ec
  rw [en, es, ec, eA, fz_to_lt ht, a1 t ht, a2 t ht, a3 t ht, a4 t ht, a14]
  obtain ⟨k, hk, ek⟩ := a5 t ht
  by_cases z : inb (f 4) (f 5) (f 2) (f 3) t
  · have hv := (vis_inb h1).mpr z
    have eb := mbV_at m m.near h1 hv.1 hv.2.2
    obtain ⟨b1, b2, b3⟩ := A.1 z
    have hs : srcT f t < 48 := by
      obtain ⟨⟨z1, z2⟩, z3, z4⟩ := z
      unfold srcT
      omega
    have e1 : (mmA m f).near t = m.near (srcT f t) := by rw [← eb]; exact b1
    have e2 : (mmA m f).ch t = m.ch t ||| (if m.near t = m.near (srcT f t) then 0 else 1) := by rw [← eb]; exact b2
    have e3 : (mmA m f).since t = (if m.far t = m.near (srcT f t) then -1 else if m.since t = -1 then m.time else m.since t) := by rw [← eb]; exact b3
    rw [P.1 z, fz_to_lt hs, a1 _ hs, e1, e2, e3]
    refine ⟨rfl, ?_, ?_, ?_⟩
    · by_cases e : m.far t = m.near (srcT f t)
      · rw [if_pos e, if_pos e.symm]
      · rw [if_neg e, if_neg (fun k => e k.symm)]
    · by_cases e : m.near t = m.near (srcT f t)
      · rw [if_pos e.symm, if_pos e]
        simp
      · rw [if_neg e, if_neg (fun k => e k.symm)]
    · rw [ek]
      by_cases e : m.near t = m.near (srcT f t)
      · rw [if_pos e]
        exact ⟨k, hk, by simp⟩
      · rw [if_neg e]
        obtain ⟨o1, o2⟩ := or_all ⟨k, hk⟩
        exact ⟨k ||| 1, o2, o1⟩
  · obtain ⟨b1, b2, b3⟩ := A.2 z
    have e1 : (mmA m f).near t = m.near t := b1
    have e2 : (mmA m f).ch t = m.ch t := b2
    have e3 : (mmA m f).since t = m.since t := b3
    rw [P.2 z, a1 t ht, e1, e2, e3, if_pos rfl]
    refine ⟨rfl, ?_, rfl, k, hk, ek⟩
    have kk := hi.2.2.1 t ht
    by_cases e : m.far t = m.near t
    · rw [if_pos e.symm, kk.mpr e]
    · rw [if_neg (fun k => e k.symm), if_neg (fun z => e (kk.mp z))]
