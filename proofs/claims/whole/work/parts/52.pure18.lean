/-! a told move makes both far screens alike -/
theorem told_far {v : SV} {m : MV} {K : Nat} {f : Nat → Nat} (ha : Alk v m) (hi : Ivm m K) (hm : MOK f) (h1 : 1 ≤ f 2) : (∀ t, t < 48 → apF f v.far v.before t = (mtA m f).far t) ∧ ∀ t, t < 48 → (if v.near t = apF f v.far v.before t then -1 else if v.since t = -1 then v.now else v.since t) = (mtA m f).since t := by
  obtain ⟨a1, a2, a3, a4, a5, a6, a7, a8, a9, a10, a11, a12, a13, a14, -⟩ := ha
  obtain ⟨m1, m2, m3, m4⟩ := hm
  have key : ∀ t, t < 48 → apF f v.far v.before t = (mtA m f).far t ∧ (if v.near t = apF f v.far v.before t then -1 else if v.since t = -1 then v.now else v.since t) = (mtA m f).since t := by
    intro t ht
    have P := apR_at f (fz_to v.far v.before 48) v.far m3 (f 3) t
    have A := mtl_at (mbV m m.far (8 * f 1 + f 0) (f 2) (f 2 * f 3)) f h1 m3 (f 2 * f 3) t
    rw [vis_inb h1] at A
    have eA : apF f v.far v.before t = apR f (fz_to v.far v.before 48) v.far (f 3) t := rfl
    rw [eA, a1 t ht, a3 t ht, a14]
    by_cases z : inb (f 4) (f 5) (f 2) (f 3) t
    · have hv := (vis_inb h1).mpr z
      have eb := mbV_at m m.far h1 hv.1 hv.2.2
      obtain ⟨b1, b2⟩ := A.1 z
      have hs : srcT f t < 48 := by
        obtain ⟨⟨z1, z2⟩, z3, z4⟩ := z
        unfold srcT
        omega
      have e1 : (mtA m f).far t = m.far (srcT f t) := by rw [← eb]; exact b1
      have e2 : (mtA m f).since t = (if m.far (srcT f t) = m.near t then -1 else if m.since t = -1 then m.time else m.since t) := by rw [← eb]; exact b2
      rw [P.1 z, fz_to_lt hs, a2 _ hs, e1, e2]
      refine ⟨rfl, ?_⟩
      by_cases e : m.far (srcT f t) = m.near t
      · rw [if_pos e, if_pos e.symm]
      · rw [if_neg e, if_neg (fun k => e k.symm)]
    · obtain ⟨b1, b2⟩ := A.2 z
      have e1 : (mtA m f).far t = m.far t := b1
      have e2 : (mtA m f).since t = m.since t := b2
      rw [P.2 z, a2 t ht, e1, e2]
      refine ⟨rfl, ?_⟩
      have k := hi.2.2.1 t ht
      by_cases e : m.far t = m.near t
      · rw [if_pos e.symm, k.mpr e]
      · rw [if_neg (fun k => e k.symm), if_neg (fun z => e (k.mp z))]
  exact ⟨fun t ht => (key t ht).1, fun t ht => (key t ht).2⟩
