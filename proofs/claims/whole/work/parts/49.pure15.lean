/-! filling keeps both sides alike -/
theorem alk_fill {v : SV} {m : MV} {K x y w h : Nat} {q : Int32} (ha : Alk v m) (hi : Ivm m K) (h1 : 1 ≤ w) (hw : x + w ≤ 8) : Alk (paV v x y w h q) (mfl m x y w q (w * h)) := by
  obtain ⟨a1, a2, a3, a4, a5, a6, a7, a8, a9, a10, a11, a12, a13, a14, a15, a16⟩ := ha
  obtain ⟨r1, r2, r3, r4, r5, r6, r7, r8, r9, r10⟩ := mfl_rest m x y w q (w * h)
  obtain ⟨k1, k2⟩ := mfl_keep m x y w q (w * h)
  have P := paR_at q x y w v.near hw h
  have A : ∀ t, (inb x y w h t → (mfl m x y w q (w * h)).near t = q ∧ (mfl m x y w q (w * h)).ch t = m.ch t ||| (if m.near t = q then 0 else 1) ∧ (mfl m x y w q (w * h)).since t = (if m.far t = q then -1 else if m.since t = -1 then m.time else m.since t)) ∧ (¬ inb x y w h t → (mfl m x y w q (w * h)).near t = m.near t ∧ (mfl m x y w q (w * h)).ch t = m.ch t ∧ (mfl m x y w q (w * h)).since t = m.since t) := fun t => by
    have k := mfl_at m (y := y) q h1 hw (w * h) t
    rw [vis_inb h1] at k
    exact k
  refine ⟨fun t ht => ?_, fun t ht => ?_, fun t ht => ?_, fun t ht => ?_, fun t ht => ?_, a6.trans r1.symm, by rw [r1]; exact a7, fun j hj => ?_, a9.trans r6.symm, by rw [r6]; exact a10, fun j hj => ?_, fun j hj => ?_, a13.trans r9.symm, a14.trans k2.symm, a15.trans r10.symm, by rw [r10]; exact a16⟩
  · show paR q x y w v.near h t = _
    by_cases z : inb x y w h t
    · rw [(P t).1 z, ((A t).1 z).1]
    · rw [(P t).2 z, ((A t).2 z).1, a1 t ht]
  · rw [k1]
    exact a2 t ht
  · show fz_to (fun t => if paR q x y w v.near h t = v.far t then -1 else if v.since t = -1 then v.now else v.since t) v.since 48 t = _
    rw [fz_to_lt ht]
    show (if paR q x y w v.near h t = v.far t then -1 else if v.since t = -1 then v.now else v.since t) = _
    rw [a2 t ht, a3 t ht, a14]
    by_cases z : inb x y w h t
    · rw [(P t).1 z, ((A t).1 z).2.2]
      by_cases e : m.far t = q
      · rw [if_pos e, if_pos e.symm]
      · rw [if_neg e, if_neg (fun k => e k.symm)]
    · rw [(P t).2 z, ((A t).2 z).2.2, a1 t ht]
      have k := hi.2.2.1 t ht
      by_cases e : m.far t = m.near t
      · rw [if_pos e.symm, k.mpr e]
      · rw [if_neg (fun k => e k.symm), if_neg (fun z => e (k.mp z))]
  · show fz_to (fun t => if paR q x y w v.near h t = fz_to v.near v.before 48 t then v.ch t else v.ch t ||| 1) v.ch 48 t = _
    rw [fz_to_lt ht]
    show (if paR q x y w v.near h t = fz_to v.near v.before 48 t then v.ch t else v.ch t ||| 1) = _
    rw [fz_to_lt ht, a4 t ht, a1 t ht]
    by_cases z : inb x y w h t
    · rw [(P t).1 z, ((A t).1 z).2.1]
      by_cases e : m.near t = q
      · rw [if_pos e.symm, if_pos e]
        simp
      · rw [if_neg e, if_neg (fun k => e k.symm)]
    · rw [(P t).2 z, ((A t).2 z).2.1, a1 t ht, if_pos rfl]
  · obtain ⟨k, hk, e⟩ := a5 t ht
    by_cases z : inb x y w h t
    · rw [((A t).1 z).2.1, e]
      by_cases y : m.near t = q
      · rw [if_pos y]
        exact ⟨k, hk, by simp⟩
      · rw [if_neg y]
        obtain ⟨o1, o2⟩ := or_all ⟨k, hk⟩
        exact ⟨k ||| 1, o2, o1⟩
    · rw [((A t).2 z).2.1]
      exact ⟨k, hk, e⟩
  · rw [r1] at hj
    have k := a8 j hj
    unfold MM1 at k ⊢
    rw [r2, r3, r4, r5]
    exact k
  · rw [r6] at hj
    rw [r7]
    exact a11 j hj
  · rw [r8]
    exact a12 j hj
