theorem alk_move {v : SV} {m : MV} {K : Nat} {f : Nat → Nat} (ha : Alk v m) (hi : Ivm m K) (hm : MOK f) (h1 : 1 ≤ f 2) : Alk (shV v f) (mmV m f) ∧ (shV v f).wm = (mmV m f).moves := by
  have T := move_tiles ha hi hm h1
  obtain ⟨a1, a2, a3, a4, a5, a6, a7, a8, a9, a10, a11, a12, a13, a14, a15, a16⟩ := ha
  obtain ⟨r1, r2, r3, r4, r5, r6, r7, r8, r9, r10, r11, r12, r13⟩ := mml_rest (mbV m m.near (8 * f 1 + f 0) (f 2) (f 2 * f 3)) (f 4) (f 5) (f 2) (f 2 * f 3)
  have r1 : (mmA m f).far = m.far := r1
  have r2 : (mmA m f).time = m.time := r2
  have r4 : (mmA m f).moves = m.moves := r4
  have r5 : (mmA m f).mF = m.mF := r5
  have r6 : (mmA m f).mT = m.mT := r6
  have r7 : (mmA m f).mW = m.mW := r7
  have r8 : (mmA m f).mH = m.mH := r8
  have r9 : (mmA m f).pics = m.pics := r9
  have r10 : (mmA m f).known = m.known := r10
  have r11 : (mmA m f).sent = m.sent := r11
  have r12 : (mmA m f).used = m.used := r12
  have r13 : (mmA m f).look = m.look := r13
  have ew : (shV v f).wm = if v.wm < 4 then v.wm + 1 else v.wm := rfl
  have ev : (shV v f).mv = mvU v.mv v.wm f := rfl
  unfold mmV
  rw [r4]
  by_cases h4 : m.moves < 4
  · rw [if_pos h4]
    have ew : (shV v f).wm = m.moves + 1 := by rw [ew, a6, if_pos h4]
    have em : (mmP (mmA m f) f).moves = m.moves + 1 := by
      show (mmA m f).moves + 1 = _
      rw [r4]
    refine ⟨⟨fun t ht => (T t ht).1, fun t ht => ?_, fun t ht => (T t ht).2.1, fun t ht => (T t ht).2.2.1, fun t ht => (T t ht).2.2.2, ew.trans em.symm, by rw [em]; omega, fun j hj => ?_, a9.trans r9.symm, ?_, fun j hj => ?_, fun j hj => ?_, a13.trans r12.symm, a14.trans r2.symm, a15.trans r13.symm, ?_⟩, ew.trans em.symm⟩
    · show v.far t = (mmA m f).far t
      rw [r1]; exact a2 t ht
    · rw [em] at hj
      unfold MM1
      show upd (mmA m f).mF (mmA m f).moves _ j = _ ∧ upd (mmA m f).mT (mmA m f).moves _ j = _ ∧ upd (mmA m f).mW (mmA m f).moves _ j = _ ∧ upd (mmA m f).mH (mmA m f).moves _ j = _ ∧ _ ∧ _
      rw [r4, r5, r6, r7, r8, ev, a6]
      by_cases z : j = m.moves
      · have q : mvU v.mv m.moves f j = f := if_pos z
        rw [z] at q ⊢
        rw [q, pk_us, pk_us, pk_us, pk_us]
        exact ⟨rfl, rfl, rfl, rfl, hm, h1⟩
      · have q : mvU v.mv m.moves f j = v.mv j := if_neg z
        rw [q, pk_un z, pk_un z, pk_un z, pk_un z]
        exact a8 j (by omega)
    · show (mmA m f).pics ≤ 8
      rw [r9]; exact a10
    · have hj : j < (mmA m f).pics := hj
      rw [r9] at hj
      show v.kp j = (mmA m f).known j
      rw [r10]; exact a11 j hj
    · show v.sc j = (mmA m f).sent j
      rw [r11]; exact a12 j hj
    · show (mmA m f).look < 48
      rw [r13]; exact a16
  · rw [if_neg h4]
    have ew : (shV v f).wm = m.moves := by rw [ew, a6, if_neg h4]
    refine ⟨⟨fun t ht => (T t ht).1, fun t ht => ?_, fun t ht => (T t ht).2.1, fun t ht => (T t ht).2.2.1, fun t ht => (T t ht).2.2.2, ew.trans r4.symm, by rw [r4]; exact a7, fun j hj => ?_, a9.trans r9.symm, by rw [r9]; exact a10, fun j hj => ?_, fun j hj => ?_, a13.trans r12.symm, a14.trans r2.symm, a15.trans r13.symm, by rw [r13]; exact a16⟩, ew.trans r4.symm⟩
    · rw [r1]; exact a2 t ht
    · rw [r4] at hj
      unfold MM1
      rw [r5, r6, r7, r8, ev]
      have q : mvU v.mv v.wm f j = v.mv j := if_neg (by omega)
      rw [q]
      exact a8 j hj
    · rw [r9] at hj
      rw [r10]; exact a11 j hj
    · rw [r11]; exact a12 j hj
