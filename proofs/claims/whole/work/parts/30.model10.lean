theorem MOKs_eq {m u : MV} (k : MOKs m) (h1 : u.moves = m.moves) (h2 : u.mF = m.mF) (h3 : u.mT = m.mT) (h4 : u.mW = m.mW) (h5 : u.mH = m.mH) (hp : u.pics ≤ 8) : MOKs u := by
  refine ⟨by rw [h1]; exact k.1, hp, fun j hj => ?_⟩
  rw [h1] at hj
  obtain ⟨h, q1, q2, q3, q4, q5⟩ := k.2.2 j hj
  exact ⟨h, by rw [h2]; exact q1, by rw [h3]; exact q2, by rw [h4]; exact q3, by rw [h5]; exact q4, q5⟩
theorem msR_mv (m : MV) (t : Nat) (x : Int32) : (msR m t x).2.moves = m.moves ∧ (msR m t x).2.mF = m.mF ∧ (msR m t x).2.mT = m.mT ∧ (msR m t x).2.mW = m.mW ∧ (msR m t x).2.mH = m.mH := by
  have a : ∀ w c, (mpR m t w c x).2.moves = m.moves ∧ (mpR m t w c x).2.mF = m.mF ∧ (mpR m t w c x).2.mT = m.mT ∧ (mpR m t w c x).2.mW = m.mW ∧ (mpR m t w c x).2.mH = m.mH := by
    intro w c
    unfold mpR
    split <;> exact ⟨rfl, rfl, rfl, rfl, rfl⟩
  have b : (mrR m t x).2.moves = m.moves ∧ (mrR m t x).2.mF = m.mF ∧ (mrR m t x).2.mT = m.mT ∧ (mrR m t x).2.mW = m.mW ∧ (mrR m t x).2.mH = m.mH := by
    unfold mrR
    split
    · exact ⟨rfl, rfl, rfl, rfl, rfl⟩
    · split <;> exact ⟨rfl, rfl, rfl, rfl, rfl⟩
  unfold msR
  split
  · split
    · exact b
    · exact a _ _
  · exact a _ _
theorem MOKs_s {m : MV} (k : MOKs m) (t : Nat) (x : Int32) : MOKs (msR m t x).2 := by
  obtain ⟨a, b, c, d, e⟩ := msR_mv m t x
  exact MOKs_eq k a b c d e (msR_keep m t x k.2.1).2.2
theorem MOKs_l : ∀ (n : Nat) (st : Int32 × MV), MOKs st.2 → MOKs (mlF n st).2 := by
  intro n
  induction n with
  | zero => intro st k; exact k
  | succ n ih =>
    intro st k
    show MOKs (if mnX st.2 = -1 then st else mlF n (mlS st)).2
    split
    · exact k
    · exact ih (mlS st) (MOKs_s k _ _)
theorem MOKs_T : ∀ (n : Nat) (m : MV) (x : Int32), MOKs m → n ≤ m.moves → MOKs (mpT m x n).1 := by
  intro n
  induction n with
  | zero => intro m x k _; exact k
  | succ n ih =>
    intro m x k hn
    show MOKs (if x < 2 then (m, x) else mpT (mtW m) (x + (-2)) n).1
    split
    · exact k
    · obtain ⟨kt, km⟩ := MOKs_tell k (hdJ m) (by omega)
      exact ih (mtW m) _ kt (by show n ≤ (mtV m (hdJ m)).moves; omega)
theorem MOKs_z {m : MV} (k : MOKs m) (t : Nat) : MOKs (mzV m t) := MOKs_eq k rfl rfl rfl rfl rfl k.2.1
theorem MOKs_d {m : MV} (k : MOKs m) (t : Nat) : MOKs (mdW m t) := MOKs_eq k rfl rfl rfl rfl rfl k.2.1
theorem MOKs_0 {m : MV} (k : MOKs m) (x : Int32) : MOKs (m.thrS x) := MOKs_eq k rfl rfl rfl rfl rfl k.2.1
theorem MOKs_p {m : MV} (k : MOKs m) (b : Int32) : MOKs (mpV m b) := by
  unfold mpV mpS
  exact MOKs_z (MOKs_l _ _ (MOKs_d (MOKs_T _ _ _ k (Nat.le_refl _)) 48)) 48
def mstR (m : MV) (b : Int32) : Int32 × MV := if okG b then (b - (mpS (m.thrS 0) b).1, (mpV (m.thrS 0) b).usedS ((mpV (m.thrS 0) b).used + (b - (mpS (m.thrS 0) b).1))) else (0, m.thrS 1)
def maV (m : MV) (x y : Int32) : MV := m.thrS (if okT x y then 0 else 1)
def maR (x y : Int32) (f : Nat → Int32) : Int32 := if okT x y then f (tN x y) else 0
def muL (f : Nat → Int32) : Nat → Int64
  | 0 => 0
  | t + 1 => if f t = -1 then muL f t else muL f t ||| (1 <<< ((nI t).toInt64 &&& 63))
def mcR (f : Nat → Int32) : Nat → Int32
  | 0 => 0
  | t + 1 => if f t < 1000 then mcR f t else mcR f t + 1
def manF (f : Nat → Int32) : Nat → Int32
  | 0 => 0
  | t + 1 => manF f t + wcI (f t)
def mkV (m : MV) (x : Int32) : MV := m.thrS (if inI x 0 (nI m.pics - 1) then 0 else 1)
def mkR (m : MV) (x : Int32) : Int32 := if inI x 0 (nI m.pics - 1) then m.known x.toNatClampNeg else 0
def mqV (m : MV) (x : Int32) : MV := m.thrS (if inI x 0 3 then 0 else 1)
def mqR (m : MV) (x : Int32) : Int32 := if inI x 0 3 then m.sent x.toNatClampNeg else 0
theorem inI_k {n : Nat} {x : Int32} (hn : n ≤ 8) (h : inI x 0 (nI n - 1)) : ∃ i, i < n ∧ x = nI i := by
  obtain ⟨i, hi, ei⟩ := nI_of (Int32.not_lt.mpr h.1)
  have h2 : nI i ≤ nI n - 1 := by rw [← ei]; exact h.2
  cases n with
  | zero =>
    have h3 : nI 0 ≤ nI 0 - 1 := Int32.le_trans ((nI_leI (by omega) hi).mpr (Nat.zero_le _)) h2
    exact absurd h3 (by decide)
  | succ n =>
    have e : nI (n + 1) - 1 = nI n := pk_sub (a := n + 1) (b := 1) (by omega)
    rw [e] at h2
    exact ⟨i, Nat.lt_succ_of_le ((nI_leI hi (by omega)).mp h2), ei⟩
theorem inI_s {x : Int32} (h : inI x 0 3) : ∃ i, i < 4 ∧ x = nI i := by
  obtain ⟨i, hi, ei⟩ := nI_of (Int32.not_lt.mpr h.1)
  have h2 : nI i ≤ nI 3 := by rw [← ei]; exact h.2
  exact ⟨i, Nat.lt_succ_of_le ((nI_leI hi (by omega)).mp h2), ei⟩
set_option maxHeartbeats 4000000 in
set_option maxRecDepth 100000 in
theorem c_X4_step (l : Launch) (g : GG) (o : Nat → Nat) (m0 : MV) (x : Int32) (hok : MOKs m0) : fz_C l g yX4_step cX4_step 3 (some .int) 3 73 [.ref (o 0), .int x] (MW g o m0) (MW g o (mstR m0 x).2) (some (.int (mstR m0 x).1)) := by
  refine fz_C.of (by decide) (Nat.le_of_ble_eq_true rfl) ?_
  intro p e s m args below meth c A ls X hW hl
  have hx := X.1
  have hb := X.2.1
  have hl : lv_has ls 3 [(0, .ref (o 0)), (1, .int x)] := hl
  have X : fz_X p s m meth c RX4 cX4_step 3 (some .int) g A := X
  have hW : fz_W g A s (MW g o m0) s.heap [] := hW
  refine lv_aload_n hx hb dX4_step_0 rfl (lv_at hl 0 rfl) ?_
  refine lv_iload_n hx hb dX4_step_1 rfl (lv_at hl 1 rfl) ?_
  refine lv_iconst (v := 0) hx hb dX4_step_2 (by decide) ?_
  refine lv_sipush (v := 300) hx hb dX4_step_3 (by decide) ?_
  refine fz_cSi X hW (c_X4_isIn l g x 0 300 _) lk_X4_57 rfl ⟨Nat.le_of_ble_eq_true rfl, Nat.le_of_ble_eq_true rfl⟩ hl rfl (Nat.le_of_ble_eq_true rfl) dX4_step_6 ⟨Nat.le_refl _, Nat.le_refl _⟩ (fun H locs hW => ?_)
  refine lv_if_eq (tgt := 16) hx hb dX4_step_9 (by decide) (fun c9 => ?_) (fun c9 => ?_)
  · skip
    have kg : ¬ okG x := fun z => b01_0.mp c9 (okG_in.mp z)
    refine lv_iconst (v := 1) hx hb dX4_step_16 (by decide) ?_
    refine pf_X4_53 X hW 0 rfl (Nat.le_of_ble_eq_true rfl) dX4_step_17 (fun H locs hW => ?_)
    refine lv_aload_n hx hb dX4_step_20 rfl (lv_at hl 0 rfl) ?_
    refine gf_X4_53 X hW 0 rfl rfl dX4_step_21 ?_
    refine lv_if_le (tgt := 29) hx hb dX4_step_24 (by decide) (fun c24 => ?_) (fun c24 => ?_)
    · first | exact absurd c24 (by decide) | exact absurd (by decide) c24
    · skip
      refine lv_iconst (v := 0) hx hb dX4_step_27 (by decide) ?_
      exact fz_ri X (fz_cast (by unfold mstR; rw [if_neg kg] <;> rfl) hW) (by unfold mstR; rw [if_neg kg]) dX4_step_28
  · skip
    have kg : okG x := okG_in.mpr (b01_1 c9)
    refine lv_iconst (v := 0) hx hb dX4_step_12 (by decide) ?_
    refine lv_goto (tgt := 17) hx hb dX4_step_13 (by decide) ?_
    refine pf_X4_53 X hW 0 rfl (Nat.le_of_ble_eq_true rfl) dX4_step_17 (fun H locs hW => ?_)
    refine lv_aload_n hx hb dX4_step_20 rfl (lv_at hl 0 rfl) ?_
    refine gf_X4_53 X hW 0 rfl rfl dX4_step_21 ?_
    refine lv_if_le (tgt := 29) hx hb dX4_step_24 (by decide) (fun c24 => ?_) (fun c24 => ?_)
    · skip
      refine lv_aload_n hx hb dX4_step_29 rfl (lv_at hl 0 rfl) ?_
      refine lv_iload_n hx hb dX4_step_30 rfl (lv_at hl 1 rfl) ?_
      refine fz_cVi X hW (c_X4_passes l g o (m0.thrS 0) x (MOKs_0 hok 0)) lk_X4_121 (ci := 4) (q0 := 0) rfl rfl rfl rfl ⟨Nat.le_of_ble_eq_true rfl, Nat.le_of_ble_eq_true rfl⟩ hl rfl (Nat.le_of_ble_eq_true rfl) dX4_step_31 ⟨Nat.le_refl _, Nat.le_refl _⟩ (fun H locs hW => ?_)
      generalize hu : mpV (m0.thrS 0) x = u at hW
      refine lv_istore_n (lv' := [(2, .int (x - (mpS (m0.thrS 0) x).1)), (0, .ref (o 0)), (1, .int x)]) hx hb dX4_step_34 rfl hl (by decide) rfl (fun ls hl => ?_)
      refine lv_aload_n hx hb dX4_step_35 rfl (lv_at hl 1 rfl) ?_
      refine lv_dup hx hb dX4_step_36 rfl ?_
      refine gf_X4_124 X hW 0 rfl rfl dX4_step_37 ?_
      refine lv_iload_n hx hb dX4_step_40 rfl (lv_at hl 0 rfl) ?_
      refine lv_iadd hx hb dX4_step_41 ?_
      refine pf_X4_124 X hW 0 rfl (Nat.le_of_ble_eq_true rfl) dX4_step_42 (fun H locs hW => ?_)
      refine lv_iload_n hx hb dX4_step_45 rfl (lv_at hl 0 rfl) ?_
      exact fz_ri X (fz_cast (by unfold mstR; rw [if_pos kg, hu] <;> rfl) hW) (by unfold mstR; rw [if_pos kg]) dX4_step_46
    · first | exact absurd c24 (by decide) | exact absurd (by decide) c24
set_option maxHeartbeats 4000000 in
set_option maxRecDepth 100000 in
theorem c_X4_time (l : Launch) (g : GG) (o : Nat → Nat) (m0 : MV) : fz_C l g yX4_time cX4_time 1 (some .int) 0 0 [.ref (o 0)] (MW g o m0) (MW g o (m0.thrS 0)) (some (.int m0.time)) := by
  refine fz_C.of (by decide) (Nat.le_of_ble_eq_true rfl) ?_
  intro p e s m args below meth c A ls X hW hl
  have hx := X.1
  have hb := X.2.1
  have hl : lv_has ls 1 [(0, .ref (o 0))] := hl
  have X : fz_X p s m meth c RX4 cX4_time 1 (some .int) g A := X
  have hW : fz_W g A s (MW g o m0) s.heap [] := hW
  refine lv_aload_n hx hb dX4_time_0 rfl (lv_at hl 0 rfl) ?_
  refine lv_iconst (v := 0) hx hb dX4_time_1 (by decide) ?_
  refine pf_X4_53 X hW 0 rfl (Nat.le_of_ble_eq_true rfl) dX4_time_2 (fun H locs hW => ?_)
  refine lv_aload_n hx hb dX4_time_5 rfl (lv_at hl 0 rfl) ?_
  refine gf_X4_65 X hW 0 rfl rfl dX4_time_6 ?_
  exact fz_ri X (fz_cast (rfl) hW) (rfl) dX4_time_9
set_option maxHeartbeats 4000000 in
set_option maxRecDepth 100000 in
theorem c_X4_waiting (l : Launch) (g : GG) (o : Nat → Nat) (m0 : MV) : fz_C l g yX4_waiting cX4_waiting 1 (some .int) 0 0 [.ref (o 0)] (MW g o m0) (MW g o (m0.thrS 0)) (some (.int (nI m0.moves))) := by
  refine fz_C.of (by decide) (Nat.le_of_ble_eq_true rfl) ?_
  intro p e s m args below meth c A ls X hW hl
  have hx := X.1
  have hb := X.2.1
  have hl : lv_has ls 1 [(0, .ref (o 0))] := hl
  have X : fz_X p s m meth c RX4 cX4_waiting 1 (some .int) g A := X
  have hW : fz_W g A s (MW g o m0) s.heap [] := hW
  refine lv_aload_n hx hb dX4_waiting_0 rfl (lv_at hl 0 rfl) ?_
  refine lv_iconst (v := 0) hx hb dX4_waiting_1 (by decide) ?_
  refine pf_X4_53 X hW 0 rfl (Nat.le_of_ble_eq_true rfl) dX4_waiting_2 (fun H locs hW => ?_)
  refine lv_aload_n hx hb dX4_waiting_5 rfl (lv_at hl 0 rfl) ?_
  refine gf_X4_88 X hW 0 rfl rfl dX4_waiting_6 ?_
  exact fz_ri X (fz_cast (rfl) hW) (rfl) dX4_waiting_9
set_option maxHeartbeats 4000000 in
set_option maxRecDepth 100000 in
theorem c_X4_knownPictures (l : Launch) (g : GG) (o : Nat → Nat) (m0 : MV) : fz_C l g yX4_knownPictures cX4_knownPictures 1 (some .int) 0 0 [.ref (o 0)] (MW g o m0) (MW g o (m0.thrS 0)) (some (.int (nI m0.pics))) := by
  refine fz_C.of (by decide) (Nat.le_of_ble_eq_true rfl) ?_
  intro p e s m args below meth c A ls X hW hl
  have hx := X.1
  have hb := X.2.1
  have hl : lv_has ls 1 [(0, .ref (o 0))] := hl
  have X : fz_X p s m meth c RX4 cX4_knownPictures 1 (some .int) g A := X
  have hW : fz_W g A s (MW g o m0) s.heap [] := hW
  refine lv_aload_n hx hb dX4_knownPictures_0 rfl (lv_at hl 0 rfl) ?_
  refine lv_iconst (v := 0) hx hb dX4_knownPictures_1 (by decide) ?_
  refine pf_X4_53 X hW 0 rfl (Nat.le_of_ble_eq_true rfl) dX4_knownPictures_2 (fun H locs hW => ?_)
  refine lv_aload_n hx hb dX4_knownPictures_5 rfl (lv_at hl 0 rfl) ?_
  refine gf_X4_94 X hW 0 rfl rfl dX4_knownPictures_6 ?_
  exact fz_ri X (fz_cast (rfl) hW) (rfl) dX4_knownPictures_9
set_option maxHeartbeats 4000000 in
set_option maxRecDepth 100000 in
theorem c_X4_used (l : Launch) (g : GG) (o : Nat → Nat) (m0 : MV) : fz_C l g yX4_used cX4_used 1 (some .int) 0 0 [.ref (o 0)] (MW g o m0) (MW g o (m0.thrS 0)) (some (.int m0.used)) := by
  refine fz_C.of (by decide) (Nat.le_of_ble_eq_true rfl) ?_
  intro p e s m args below meth c A ls X hW hl
  have hx := X.1
  have hb := X.2.1
  have hl : lv_has ls 1 [(0, .ref (o 0))] := hl
  have X : fz_X p s m meth c RX4 cX4_used 1 (some .int) g A := X
  have hW : fz_W g A s (MW g o m0) s.heap [] := hW
  refine lv_aload_n hx hb dX4_used_0 rfl (lv_at hl 0 rfl) ?_
  refine lv_iconst (v := 0) hx hb dX4_used_1 (by decide) ?_
  refine pf_X4_53 X hW 0 rfl (Nat.le_of_ble_eq_true rfl) dX4_used_2 (fun H locs hW => ?_)
  refine lv_aload_n hx hb dX4_used_5 rfl (lv_at hl 0 rfl) ?_
  refine gf_X4_124 X hW 0 rfl rfl dX4_used_6 ?_
  exact fz_ri X (fz_cast (rfl) hW) (rfl) dX4_used_9
set_option maxHeartbeats 4000000 in
set_option maxRecDepth 100000 in
theorem c_X4_asks (l : Launch) (g : GG) (o : Nat → Nat) (m0 : MV) (x y : Int32) : fz_C l g yX4_asks cX4_asks 3 (some .boolean) 2 43 [.ref (o 0), .int x, .int y] (MW g o m0) (MW g o (maV m0 x y)) (some (.int (b01 (okT x y)))) := by
  refine fz_C.of (by decide) (Nat.le_of_ble_eq_true rfl) ?_
  intro p e s m args below meth c A ls X hW hl
  have hx := X.1
  have hb := X.2.1
  have hl : lv_has ls 3 [(0, .ref (o 0)), (1, .int x), (2, .int y)] := hl
  have X : fz_X p s m meth c RX4 cX4_asks 3 (some .boolean) g A := X
  have hW : fz_W g A s (MW g o m0) s.heap [] := hW
  refine lv_aload_n hx hb dX4_asks_0 rfl (lv_at hl 0 rfl) ?_
  refine lv_iload_n hx hb dX4_asks_1 rfl (lv_at hl 1 rfl) ?_
  refine lv_iload_n hx hb dX4_asks_2 rfl (lv_at hl 2 rfl) ?_
  refine fz_cSi X hW (c_X4_isTile l g x y _) lk_X4_61 rfl ⟨Nat.le_of_ble_eq_true rfl, Nat.le_of_ble_eq_true rfl⟩ hl rfl (Nat.le_of_ble_eq_true rfl) dX4_asks_3 ⟨Nat.le_refl _, Nat.le_refl _⟩ (fun H locs hW => ?_)
  refine lv_if_eq (tgt := 13) hx hb dX4_asks_6 (by decide) (fun c6 => ?_) (fun c6 => ?_)
  · skip
    have kt : ¬ okT x y := b01_0.mp c6
    refine lv_iconst (v := 1) hx hb dX4_asks_13 (by decide) ?_
    refine pf_X4_53 X hW 0 rfl (Nat.le_of_ble_eq_true rfl) dX4_asks_14 (fun H locs hW => ?_)
    refine lv_aload_n hx hb dX4_asks_17 rfl (lv_at hl 0 rfl) ?_
    refine gf_X4_53 X hW 0 rfl rfl dX4_asks_18 ?_
    refine lv_if_ne (tgt := 28) hx hb dX4_asks_21 (by decide) (fun c21 => ?_) (fun c21 => ?_)
    · skip
      refine lv_iconst (v := 0) hx hb dX4_asks_28 (by decide) ?_
      exact fz_rz X (fz_cast (by unfold maV; rw [if_neg kt] <;> rfl) hW) ((b01_f kt).symm) (fz_01 (b01_01 _)) dX4_asks_29
    · first | exact absurd c21 (by decide) | exact absurd (by decide) c21
  · skip
    have kt : okT x y := b01_1 c6
    obtain ⟨i, j, ex1, ey1, hi8, hj6, etn⟩ := okT_nat kt
    refine lv_iconst (v := 0) hx hb dX4_asks_9 (by decide) ?_
    refine lv_goto (tgt := 14) hx hb dX4_asks_10 (by decide) ?_
    refine pf_X4_53 X hW 0 rfl (Nat.le_of_ble_eq_true rfl) dX4_asks_14 (fun H locs hW => ?_)
    refine lv_aload_n hx hb dX4_asks_17 rfl (lv_at hl 0 rfl) ?_
    refine gf_X4_53 X hW 0 rfl rfl dX4_asks_18 ?_
    refine lv_if_ne (tgt := 28) hx hb dX4_asks_21 (by decide) (fun c21 => ?_) (fun c21 => ?_)
    · first | exact absurd c21 (by decide) | exact absurd (by decide) c21
    · skip
      refine lv_iconst (v := 1) hx hb dX4_asks_24 (by decide) ?_
      refine lv_goto (tgt := 29) hx hb dX4_asks_25 (by decide) ?_
      exact fz_rz X (fz_cast (by unfold maV; rw [if_pos kt] <;> rfl) hW) ((b01_t kt).symm) (fz_01 (b01_01 _)) dX4_asks_29
set_option maxHeartbeats 4000000 in
set_option maxRecDepth 100000 in
theorem c_X4_near (l : Launch) (g : GG) (o : Nat → Nat) (m0 : MV) (x y : Int32) : fz_C l g yX4_near cX4_near 3 (some .int) 3 65 [.ref (o 0), .int x, .int y] (MW g o m0) (MW g o (maV m0 x y)) (some (.int (maR x y m0.near))) := by
  refine fz_C.of (by decide) (Nat.le_of_ble_eq_true rfl) ?_
  intro p e s m args below meth c A ls X hW hl
  have hx := X.1
  have hb := X.2.1
  have hl : lv_has ls 3 [(0, .ref (o 0)), (1, .int x), (2, .int y)] := hl
  have X : fz_X p s m meth c RX4 cX4_near 3 (some .int) g A := X
  have hW : fz_W g A s (MW g o m0) s.heap [] := hW
  refine lv_aload_n hx hb dX4_near_0 rfl (lv_at hl 0 rfl) ?_
  refine lv_iload_n hx hb dX4_near_1 rfl (lv_at hl 1 rfl) ?_
  refine lv_iload_n hx hb dX4_near_2 rfl (lv_at hl 2 rfl) ?_
  refine fz_cVi X hW (c_X4_asks l g o m0 x y) lk_X4_127 (ci := 4) (q0 := 0) rfl rfl rfl rfl ⟨Nat.le_of_ble_eq_true rfl, Nat.le_of_ble_eq_true rfl⟩ hl rfl (Nat.le_of_ble_eq_true rfl) dX4_near_3 ⟨Nat.le_refl _, Nat.le_refl _⟩ (fun H locs hW => ?_)
  refine lv_if_eq (tgt := 23) hx hb dX4_near_6 (by decide) (fun c6 => ?_) (fun c6 => ?_)
  · skip
    have kt : ¬ okT x y := b01_0.mp c6
    refine lv_iconst (v := 0) hx hb dX4_near_23 (by decide) ?_
    exact fz_ri X (fz_cast (rfl) hW) (by unfold maR; rw [if_neg kt]) dX4_near_24
  · skip
    have kt : okT x y := b01_1 c6
    obtain ⟨i, j, ex1, ey1, hi8, hj6, etn⟩ := okT_nat kt
    refine lv_aload_n hx hb dX4_near_9 rfl (lv_at hl 0 rfl) ?_
    refine gf_X4_7 X hW 0 rfl rfl dX4_near_10 ?_
    refine lv_bipush (v := 8) hx hb dX4_near_13 (by decide) ?_
    refine lv_iload_n hx hb dX4_near_15 rfl (lv_at hl 2 rfl) ?_
    refine lv_imul hx hb dX4_near_16 ?_
    refine lv_iload_n hx hb dX4_near_17 rfl (lv_at hl 1 rfl) ?_
    refine lv_iadd hx hb dX4_near_18 ?_
    refine fz_top (x' := nI (tN x y)) (by rw [etn, ex1, ey1]; exact fz_tl _ _) ?_
    refine fz_il X hW 1 (tN x y) rfl rfl (by rw [etn]; omega) (by decide) dX4_near_19 ?_
    refine lv_goto (tgt := 24) hx hb dX4_near_20 (by decide) ?_
    exact fz_ri X (fz_cast (rfl) hW) (by unfold maR; rw [if_pos kt] <;> rfl) dX4_near_24
set_option maxHeartbeats 4000000 in
set_option maxRecDepth 100000 in
theorem c_X4_far (l : Launch) (g : GG) (o : Nat → Nat) (m0 : MV) (x y : Int32) : fz_C l g yX4_far cX4_far 3 (some .int) 3 65 [.ref (o 0), .int x, .int y] (MW g o m0) (MW g o (maV m0 x y)) (some (.int (maR x y m0.far))) := by
  refine fz_C.of (by decide) (Nat.le_of_ble_eq_true rfl) ?_
  intro p e s m args below meth c A ls X hW hl
  have hx := X.1
  have hb := X.2.1
  have hl : lv_has ls 3 [(0, .ref (o 0)), (1, .int x), (2, .int y)] := hl
  have X : fz_X p s m meth c RX4 cX4_far 3 (some .int) g A := X
  have hW : fz_W g A s (MW g o m0) s.heap [] := hW
  refine lv_aload_n hx hb dX4_far_0 rfl (lv_at hl 0 rfl) ?_
  refine lv_iload_n hx hb dX4_far_1 rfl (lv_at hl 1 rfl) ?_
  refine lv_iload_n hx hb dX4_far_2 rfl (lv_at hl 2 rfl) ?_
  refine fz_cVi X hW (c_X4_asks l g o m0 x y) lk_X4_127 (ci := 4) (q0 := 0) rfl rfl rfl rfl ⟨Nat.le_of_ble_eq_true rfl, Nat.le_of_ble_eq_true rfl⟩ hl rfl (Nat.le_of_ble_eq_true rfl) dX4_far_3 ⟨Nat.le_refl _, Nat.le_refl _⟩ (fun H locs hW => ?_)
  refine lv_if_eq (tgt := 23) hx hb dX4_far_6 (by decide) (fun c6 => ?_) (fun c6 => ?_)
  · skip
    have kt : ¬ okT x y := b01_0.mp c6
    refine lv_iconst (v := 0) hx hb dX4_far_23 (by decide) ?_
    exact fz_ri X (fz_cast (rfl) hW) (by unfold maR; rw [if_neg kt]) dX4_far_24
  · skip
    have kt : okT x y := b01_1 c6
    obtain ⟨i, j, ex1, ey1, hi8, hj6, etn⟩ := okT_nat kt
    refine lv_aload_n hx hb dX4_far_9 rfl (lv_at hl 0 rfl) ?_
    refine gf_X4_13 X hW 0 rfl rfl dX4_far_10 ?_
    refine lv_bipush (v := 8) hx hb dX4_far_13 (by decide) ?_
    refine lv_iload_n hx hb dX4_far_15 rfl (lv_at hl 2 rfl) ?_
    refine lv_imul hx hb dX4_far_16 ?_
    refine lv_iload_n hx hb dX4_far_17 rfl (lv_at hl 1 rfl) ?_
    refine lv_iadd hx hb dX4_far_18 ?_
    refine fz_top (x' := nI (tN x y)) (by rw [etn, ex1, ey1]; exact fz_tl _ _) ?_
    refine fz_il X hW 2 (tN x y) rfl rfl (by rw [etn]; omega) (by decide) dX4_far_19 ?_
    refine lv_goto (tgt := 24) hx hb dX4_far_20 (by decide) ?_
    exact fz_ri X (fz_cast (rfl) hW) (by unfold maR; rw [if_pos kt] <;> rfl) dX4_far_24
set_option maxHeartbeats 4000000 in
set_option maxRecDepth 100000 in
theorem c_X4_since (l : Launch) (g : GG) (o : Nat → Nat) (m0 : MV) (x y : Int32) : fz_C l g yX4_since cX4_since 3 (some .int) 3 65 [.ref (o 0), .int x, .int y] (MW g o m0) (MW g o (maV m0 x y)) (some (.int (maR x y m0.since))) := by
  refine fz_C.of (by decide) (Nat.le_of_ble_eq_true rfl) ?_
  intro p e s m args below meth c A ls X hW hl
  have hx := X.1
  have hb := X.2.1
  have hl : lv_has ls 3 [(0, .ref (o 0)), (1, .int x), (2, .int y)] := hl
  have X : fz_X p s m meth c RX4 cX4_since 3 (some .int) g A := X
  have hW : fz_W g A s (MW g o m0) s.heap [] := hW
  refine lv_aload_n hx hb dX4_since_0 rfl (lv_at hl 0 rfl) ?_
  refine lv_iload_n hx hb dX4_since_1 rfl (lv_at hl 1 rfl) ?_
  refine lv_iload_n hx hb dX4_since_2 rfl (lv_at hl 2 rfl) ?_
  refine fz_cVi X hW (c_X4_asks l g o m0 x y) lk_X4_127 (ci := 4) (q0 := 0) rfl rfl rfl rfl ⟨Nat.le_of_ble_eq_true rfl, Nat.le_of_ble_eq_true rfl⟩ hl rfl (Nat.le_of_ble_eq_true rfl) dX4_since_3 ⟨Nat.le_refl _, Nat.le_refl _⟩ (fun H locs hW => ?_)
  refine lv_if_eq (tgt := 23) hx hb dX4_since_6 (by decide) (fun c6 => ?_) (fun c6 => ?_)
  · skip
    have kt : ¬ okT x y := b01_0.mp c6
    refine lv_iconst (v := 0) hx hb dX4_since_23 (by decide) ?_
    exact fz_ri X (fz_cast (rfl) hW) (by unfold maR; rw [if_neg kt]) dX4_since_24
  · skip
    have kt : okT x y := b01_1 c6
    obtain ⟨i, j, ex1, ey1, hi8, hj6, etn⟩ := okT_nat kt
    refine lv_aload_n hx hb dX4_since_9 rfl (lv_at hl 0 rfl) ?_
    refine gf_X4_16 X hW 0 rfl rfl dX4_since_10 ?_
    refine lv_bipush (v := 8) hx hb dX4_since_13 (by decide) ?_
    refine lv_iload_n hx hb dX4_since_15 rfl (lv_at hl 2 rfl) ?_
    refine lv_imul hx hb dX4_since_16 ?_
    refine lv_iload_n hx hb dX4_since_17 rfl (lv_at hl 1 rfl) ?_
    refine lv_iadd hx hb dX4_since_18 ?_
    refine fz_top (x' := nI (tN x y)) (by rw [etn, ex1, ey1]; exact fz_tl _ _) ?_
    refine fz_il X hW 3 (tN x y) rfl rfl (by rw [etn]; omega) (by decide) dX4_since_19 ?_
    refine lv_goto (tgt := 24) hx hb dX4_since_20 (by decide) ?_
    exact fz_ri X (fz_cast (rfl) hW) (by unfold maR; rw [if_pos kt] <;> rfl) dX4_since_24
set_option maxHeartbeats 4000000 in
set_option maxRecDepth 100000 in
theorem c_X4_kind (l : Launch) (g : GG) (o : Nat → Nat) (m0 : MV) (x y : Int32) : fz_C l g yX4_kind cX4_kind 3 (some .int) 3 65 [.ref (o 0), .int x, .int y] (MW g o m0) (MW g o (maV m0 x y)) (some (.int (maR x y (mkI m0)))) := by
  refine fz_C.of (by decide) (Nat.le_of_ble_eq_true rfl) ?_
  intro p e s m args below meth c A ls X hW hl
  have hx := X.1
  have hb := X.2.1
  have hl : lv_has ls 3 [(0, .ref (o 0)), (1, .int x), (2, .int y)] := hl
  have X : fz_X p s m meth c RX4 cX4_kind 3 (some .int) g A := X
  have hW : fz_W g A s (MW g o m0) s.heap [] := hW
  refine lv_aload_n hx hb dX4_kind_0 rfl (lv_at hl 0 rfl) ?_
  refine lv_iload_n hx hb dX4_kind_1 rfl (lv_at hl 1 rfl) ?_
  refine lv_iload_n hx hb dX4_kind_2 rfl (lv_at hl 2 rfl) ?_
  refine fz_cVi X hW (c_X4_asks l g o m0 x y) lk_X4_127 (ci := 4) (q0 := 0) rfl rfl rfl rfl ⟨Nat.le_of_ble_eq_true rfl, Nat.le_of_ble_eq_true rfl⟩ hl rfl (Nat.le_of_ble_eq_true rfl) dX4_kind_3 ⟨Nat.le_refl _, Nat.le_refl _⟩ (fun H locs hW => ?_)
  refine lv_if_eq (tgt := 22) hx hb dX4_kind_6 (by decide) (fun c6 => ?_) (fun c6 => ?_)
  · skip
    have kt : ¬ okT x y := b01_0.mp c6
    refine lv_iconst (v := 0) hx hb dX4_kind_22 (by decide) ?_
    exact fz_ri X (fz_cast (rfl) hW) (by unfold maR; rw [if_neg kt]) dX4_kind_23
  · skip
    have kt : okT x y := b01_1 c6
    obtain ⟨i, j, ex1, ey1, hi8, hj6, etn⟩ := okT_nat kt
    refine lv_aload_n hx hb dX4_kind_9 rfl (lv_at hl 0 rfl) ?_
    refine lv_bipush (v := 8) hx hb dX4_kind_10 (by decide) ?_
    refine lv_iload_n hx hb dX4_kind_12 rfl (lv_at hl 2 rfl) ?_
    refine lv_imul hx hb dX4_kind_13 ?_
    refine lv_iload_n hx hb dX4_kind_14 rfl (lv_at hl 1 rfl) ?_
    refine lv_iadd hx hb dX4_kind_15 ?_
    refine fz_top (x' := nI (tN x y)) (by rw [etn, ex1, ey1]; exact fz_tl _ _) ?_
    refine fz_cVi X hW (c_X4_kindOf l g o (maV m0 x y) (tN x y) (by rw [etn]; omega)) lk_X4_101 (ci := 4) (q0 := 0) rfl rfl rfl rfl ⟨Nat.le_of_ble_eq_true rfl, Nat.le_of_ble_eq_true rfl⟩ hl rfl (Nat.le_of_ble_eq_true rfl) dX4_kind_16 ⟨Nat.le_refl _, Nat.le_refl _⟩ (fun H locs hW => ?_)
    refine lv_goto (tgt := 23) hx hb dX4_kind_19 (by decide) ?_
    exact fz_ri X (fz_cast (rfl) hW) (by unfold maR; rw [if_pos kt] <;> rfl) dX4_kind_23
set_option maxHeartbeats 4000000 in
set_option maxRecDepth 100000 in
theorem c_X4_unlike (l : Launch) (g : GG) (o : Nat → Nat) (m0 : MV) : fz_C l g yX4_unlike cX4_unlike 4 (some .long) 0 0 [.ref (o 0)] (MW g o m0) (MW g o (m0.thrS 0)) (some (.long (muL m0.since 48))) := by
  refine fz_C.of (by decide) (Nat.le_of_ble_eq_true rfl) ?_
  intro p e s m args below meth c A ls X hW hl
  have hx := X.1
  have hb := X.2.1
  have hl : lv_has ls 4 [(0, .ref (o 0))] := hl
  have X : fz_X p s m meth c RX4 cX4_unlike 4 (some .long) g A := X
  have hW : fz_W g A s (MW g o m0) s.heap [] := hW
  refine lv_aload_n hx hb dX4_unlike_0 rfl (lv_at hl 0 rfl) ?_
  refine lv_iconst (v := 0) hx hb dX4_unlike_1 (by decide) ?_
  refine pf_X4_53 X hW 0 rfl (Nat.le_of_ble_eq_true rfl) dX4_unlike_2 (fun H locs hW => ?_)
  refine lv_lconst (v := 0) hx hb dX4_unlike_5 (by decide) ?_
  refine lv_lstore_n (lv' := [(1, .long 0), (0, .ref (o 0))]) hx hb dX4_unlike_6 rfl hl (by decide) rfl (fun ls hl => ?_)
  refine lv_iconst (v := 0) hx hb dX4_unlike_7 (by decide) ?_
  refine lv_istore_n (lv' := [(3, .int 0), (1, .long 0), (0, .ref (o 0))]) hx hb dX4_unlike_8 rfl hl (by decide) rfl (fun ls hl => ?_)
  have loop9 : ∀ (k : Nat) (t : Nat) (z : Int64), t ≤ 48 → 48 < t + k → z = muL m0.since t → ∀ (H : Heap) (locs : List Loc) (ls : Array Slot), fz_W g A s (MW g o (m0.thrS 0)) H locs → lv_has ls 4 [(0, .ref (o 0)), (1, .long z), (3, .int (nI t))] → W p l e (fz_R 0 0 0 0) s m args below meth c H locs 0 0 (MQ below (fz_Q g (MW g o (m0.thrS 0)) (some (.long (muL m0.since 48))) A) args s 0 0 A) (F0 m 9 ls []) := by
    intro k
    induction k with
    | zero =>
      intro t z ht hk
      omega
    | succ k ih9 =>
      intro t z ht hk hz H locs ls hW hl
      refine lv_iload_n hx hb dX4_unlike_9 rfl (lv_at hl 2 rfl) ?_
      refine lv_bipush (v := 48) hx hb dX4_unlike_10 (by decide) ?_
      refine lv_icmp_ge (tgt := 41) hx hb dX4_unlike_12 (by decide) (fun c12 => ?_) (fun c12 => ?_)
      · skip
        have h12 : 48 ≤ t := (nI_leI (a := 48) (b := t) (by omega) (by omega)).mp c12
        have e12 : t = 48 := by omega
        have hl := lv_sub hl [0, 1] rfl
        have hl : lv_has ls 4 [(0, .ref (o 0)), (1, .long z)] := hl
        refine lv_lload_n hx hb dX4_unlike_41 rfl (lv_at hl 1 rfl) ?_
        exact fz_rl X (fz_cast (rfl) hW) (by rw [hz, e12]) dX4_unlike_42
      · skip
        have h12 : t < 48 := Nat.not_le.mp (fun z => c12 ((nI_leI (a := 48) (b := t) (by omega) (by omega)).mpr z))
        refine lv_lload_n hx hb dX4_unlike_15 rfl (lv_at hl 1 rfl) ?_
        refine lv_aload_n hx hb dX4_unlike_16 rfl (lv_at hl 0 rfl) ?_
        refine gf_X4_16 X hW 0 rfl rfl dX4_unlike_17 ?_
        refine lv_iload_n hx hb dX4_unlike_20 rfl (lv_at hl 2 rfl) ?_
        refine fz_il X hW 3 (t) rfl rfl (by omega) (by decide) dX4_unlike_21 ?_
        refine lv_iconst (v := (-1)) hx hb dX4_unlike_22 (by decide) ?_
        refine lv_icmp_ne (tgt := 30) hx hb dX4_unlike_23 (by decide) (fun c23 => ?_) (fun c23 => ?_)
        · skip
          have c23 : ¬ m0.since t = -1 := c23
          refine lv_lconst (v := 1) hx hb dX4_unlike_30 (by decide) ?_
          refine lv_iload_n hx hb dX4_unlike_31 rfl (lv_at hl 2 rfl) ?_
          refine lv_lshl hx hb dX4_unlike_32 rfl ?_
          refine lv_lor hx hb dX4_unlike_33 ?_
          refine lv_lstore_n (lv' := [(1, .long (z ||| (1 <<< ((nI t).toInt64 &&& 63)))), (0, .ref (o 0)), (3, .int (nI t))]) hx hb dX4_unlike_34 rfl hl (by decide) rfl (fun ls hl => ?_)
          refine lv_iinc (v := nI (t + 1)) (lv' := [(3, .int (nI (t + 1))), (1, .long (z ||| (1 <<< ((nI t).toInt64 &&& 63)))), (0, .ref (o 0))]) hx hb dX4_unlike_35 hl (k := 2) rfl (nI_1 _) (by decide) rfl (fun ls hl => ?_)
          refine lv_goto (tgt := 9) hx hb dX4_unlike_38 (by decide) ?_
          exact ih9 (t + 1) _ (by omega) (by omega) (by rw [hz]; exact (if_neg c23).symm) _ _ _ (fz_cast (rfl) hW) (lv_sub hl [2, 1, 0] rfl)
        · skip
          have c23 : m0.since t = -1 := c23
          refine lv_lconst (v := 0) hx hb dX4_unlike_26 (by decide) ?_
          refine lv_goto (tgt := 33) hx hb dX4_unlike_27 (by decide) ?_
          refine lv_lor hx hb dX4_unlike_33 ?_
          refine lv_lstore_n (lv' := [(1, .long (z ||| 0)), (0, .ref (o 0)), (3, .int (nI t))]) hx hb dX4_unlike_34 rfl hl (by decide) rfl (fun ls hl => ?_)
          refine lv_iinc (v := nI (t + 1)) (lv' := [(3, .int (nI (t + 1))), (1, .long (z ||| 0)), (0, .ref (o 0))]) hx hb dX4_unlike_35 hl (k := 2) rfl (nI_1 _) (by decide) rfl (fun ls hl => ?_)
          refine lv_goto (tgt := 9) hx hb dX4_unlike_38 (by decide) ?_
          exact ih9 (t + 1) _ (by omega) (by omega) (by rw [hz]; exact Eq.trans (by first | exact Int64.or_zero | simp) (if_pos c23).symm) _ _ _ (fz_cast (rfl) hW) (lv_sub hl [2, 1, 0] rfl)
  exact loop9 49 0 0 (by omega) (by omega) rfl _ _ _ (fz_cast (rfl) hW) (lv_sub hl [2, 1, 0] rfl)
set_option maxHeartbeats 4000000 in
set_option maxRecDepth 100000 in
theorem c_X4_rough (l : Launch) (g : GG) (o : Nat → Nat) (m0 : MV) : fz_C l g yX4_rough cX4_rough 3 (some .int) 0 0 [.ref (o 0)] (MW g o m0) (MW g o (m0.thrS 0)) (some (.int (mcR m0.far 48))) := by
  refine fz_C.of (by decide) (Nat.le_of_ble_eq_true rfl) ?_
  intro p e s m args below meth c A ls X hW hl
  have hx := X.1
  have hb := X.2.1
  have hl : lv_has ls 3 [(0, .ref (o 0))] := hl
  have X : fz_X p s m meth c RX4 cX4_rough 3 (some .int) g A := X
  have hW : fz_W g A s (MW g o m0) s.heap [] := hW
  refine lv_aload_n hx hb dX4_rough_0 rfl (lv_at hl 0 rfl) ?_
  refine lv_iconst (v := 0) hx hb dX4_rough_1 (by decide) ?_
  refine pf_X4_53 X hW 0 rfl (Nat.le_of_ble_eq_true rfl) dX4_rough_2 (fun H locs hW => ?_)
  refine lv_iconst (v := 0) hx hb dX4_rough_5 (by decide) ?_
  refine lv_istore_n (lv' := [(1, .int 0), (0, .ref (o 0))]) hx hb dX4_rough_6 rfl hl (by decide) rfl (fun ls hl => ?_)
  refine lv_iconst (v := 0) hx hb dX4_rough_7 (by decide) ?_
  refine lv_istore_n (lv' := [(2, .int 0), (1, .int 0), (0, .ref (o 0))]) hx hb dX4_rough_8 rfl hl (by decide) rfl (fun ls hl => ?_)
  have loop9 : ∀ (k : Nat) (t : Nat) (z : Int32), t ≤ 48 → 48 < t + k → z = mcR m0.far t → ∀ (H : Heap) (locs : List Loc) (ls : Array Slot), fz_W g A s (MW g o (m0.thrS 0)) H locs → lv_has ls 3 [(0, .ref (o 0)), (1, .int z), (2, .int (nI t))] → W p l e (fz_R 0 0 0 0) s m args below meth c H locs 0 0 (MQ below (fz_Q g (MW g o (m0.thrS 0)) (some (.int (mcR m0.far 48))) A) args s 0 0 A) (F0 m 9 ls []) := by
    intro k
    induction k with
    | zero =>
      intro t z ht hk
      omega
    | succ k ih9 =>
      intro t z ht hk hz H locs ls hW hl
      refine lv_iload_n hx hb dX4_rough_9 rfl (lv_at hl 2 rfl) ?_
      refine lv_bipush (v := 48) hx hb dX4_rough_10 (by decide) ?_
      refine lv_icmp_ge (tgt := 41) hx hb dX4_rough_12 (by decide) (fun c12 => ?_) (fun c12 => ?_)
      · skip
        have h12 : 48 ≤ t := (nI_leI (a := 48) (b := t) (by omega) (by omega)).mp c12
        have e12 : t = 48 := by omega
        have hl := lv_sub hl [0, 1] rfl
        have hl : lv_has ls 3 [(0, .ref (o 0)), (1, .int z)] := hl
        refine lv_iload_n hx hb dX4_rough_41 rfl (lv_at hl 1 rfl) ?_
        exact fz_ri X (fz_cast (rfl) hW) (by rw [hz, e12]) dX4_rough_42
      · skip
        have h12 : t < 48 := Nat.not_le.mp (fun z => c12 ((nI_leI (a := 48) (b := t) (by omega) (by omega)).mpr z))
        refine lv_iload_n hx hb dX4_rough_15 rfl (lv_at hl 1 rfl) ?_
        refine lv_aload_n hx hb dX4_rough_16 rfl (lv_at hl 0 rfl) ?_
        refine gf_X4_13 X hW 0 rfl rfl dX4_rough_17 ?_
        refine lv_iload_n hx hb dX4_rough_20 rfl (lv_at hl 2 rfl) ?_
        refine fz_il X hW 2 (t) rfl rfl (by omega) (by decide) dX4_rough_21 ?_
        refine lv_sipush (v := 1000) hx hb dX4_rough_22 (by decide) ?_
        refine lv_icmp_lt (tgt := 32) hx hb dX4_rough_25 (by decide) (fun c25 => ?_) (fun c25 => ?_)
        · skip
          have c25 : m0.far t < 1000 := c25
          refine lv_iconst (v := 0) hx hb dX4_rough_32 (by decide) ?_
          refine lv_iadd hx hb dX4_rough_33 ?_
          refine lv_istore_n (lv' := [(1, .int (z + 0)), (0, .ref (o 0)), (2, .int (nI t))]) hx hb dX4_rough_34 rfl hl (by decide) rfl (fun ls hl => ?_)
          refine lv_iinc (v := nI (t + 1)) (lv' := [(2, .int (nI (t + 1))), (1, .int (z + 0)), (0, .ref (o 0))]) hx hb dX4_rough_35 hl (k := 2) rfl (nI_1 _) (by decide) rfl (fun ls hl => ?_)
          refine lv_goto (tgt := 9) hx hb dX4_rough_38 (by decide) ?_
          exact ih9 (t + 1) _ (by omega) (by omega) (by rw [hz]; exact Eq.trans (by first | exact Int32.add_zero _ | simp) (if_pos c25).symm) _ _ _ (fz_cast (rfl) hW) (lv_sub hl [2, 1, 0] rfl)
        · skip
          have c25 : ¬ m0.far t < 1000 := c25
          refine lv_iconst (v := 1) hx hb dX4_rough_28 (by decide) ?_
          refine lv_goto (tgt := 33) hx hb dX4_rough_29 (by decide) ?_
          refine lv_iadd hx hb dX4_rough_33 ?_
          refine lv_istore_n (lv' := [(1, .int (z + 1)), (0, .ref (o 0)), (2, .int (nI t))]) hx hb dX4_rough_34 rfl hl (by decide) rfl (fun ls hl => ?_)
          refine lv_iinc (v := nI (t + 1)) (lv' := [(2, .int (nI (t + 1))), (1, .int (z + 1)), (0, .ref (o 0))]) hx hb dX4_rough_35 hl (k := 2) rfl (nI_1 _) (by decide) rfl (fun ls hl => ?_)
          refine lv_goto (tgt := 9) hx hb dX4_rough_38 (by decide) ?_
          exact ih9 (t + 1) _ (by omega) (by omega) (by rw [hz]; exact (if_neg c25).symm) _ _ _ (fz_cast (rfl) hW) (lv_sub hl [2, 1, 0] rfl)
  exact loop9 49 0 0 (by omega) (by omega) rfl _ _ _ (fz_cast (rfl) hW) (lv_sub hl [2, 1, 0] rfl)
set_option maxHeartbeats 4000000 in
set_option maxRecDepth 100000 in
theorem c_X4_anew (l : Launch) (g : GG) (o : Nat → Nat) (m0 : MV) : fz_C l g yX4_anew cX4_anew 3 (some .int) 0 0 [.ref (o 0)] (MW g o m0) (MW g o (m0.thrS 0)) (some (.int (manF m0.near 48))) := by
  refine fz_C.of (by decide) (Nat.le_of_ble_eq_true rfl) ?_
  intro p e s m args below meth c A ls X hW hl
  have hx := X.1
  have hb := X.2.1
  have hl : lv_has ls 3 [(0, .ref (o 0))] := hl
  have X : fz_X p s m meth c RX4 cX4_anew 3 (some .int) g A := X
  have hW : fz_W g A s (MW g o m0) s.heap [] := hW
  refine lv_aload_n hx hb dX4_anew_0 rfl (lv_at hl 0 rfl) ?_
  refine lv_iconst (v := 0) hx hb dX4_anew_1 (by decide) ?_
  refine pf_X4_53 X hW 0 rfl (Nat.le_of_ble_eq_true rfl) dX4_anew_2 (fun H locs hW => ?_)
  refine lv_iconst (v := 0) hx hb dX4_anew_5 (by decide) ?_
  refine lv_istore_n (lv' := [(1, .int 0), (0, .ref (o 0))]) hx hb dX4_anew_6 rfl hl (by decide) rfl (fun ls hl => ?_)
  refine lv_iconst (v := 0) hx hb dX4_anew_7 (by decide) ?_
  refine lv_istore_n (lv' := [(2, .int 0), (1, .int 0), (0, .ref (o 0))]) hx hb dX4_anew_8 rfl hl (by decide) rfl (fun ls hl => ?_)
  have loop9 : ∀ (k : Nat) (t : Nat) (z : Int32), t ≤ 48 → 48 < t + k → z = manF m0.near t → ∀ (H : Heap) (locs : List Loc) (ls : Array Slot), fz_W g A s (MW g o (m0.thrS 0)) H locs → lv_has ls 3 [(0, .ref (o 0)), (1, .int z), (2, .int (nI t))] → W p l e (fz_R 0 0 0 0) s m args below meth c H locs 0 0 (MQ below (fz_Q g (MW g o (m0.thrS 0)) (some (.int (manF m0.near 48))) A) args s 0 0 A) (F0 m 9 ls []) := by
    intro k
    induction k with
    | zero =>
      intro t z ht hk
      omega
    | succ k ih9 =>
      intro t z ht hk hz H locs ls hW hl
      refine lv_iload_n hx hb dX4_anew_9 rfl (lv_at hl 2 rfl) ?_
      refine lv_bipush (v := 48) hx hb dX4_anew_10 (by decide) ?_
      refine lv_icmp_ge (tgt := 41) hx hb dX4_anew_12 (by decide) (fun c12 => ?_) (fun c12 => ?_)
      · skip
        have h12 : 48 ≤ t := (nI_leI (a := 48) (b := t) (by omega) (by omega)).mp c12
        have e12 : t = 48 := by omega
        have hl := lv_sub hl [0, 1] rfl
        have hl : lv_has ls 3 [(0, .ref (o 0)), (1, .int z)] := hl
        refine lv_iload_n hx hb dX4_anew_41 rfl (lv_at hl 1 rfl) ?_
        exact fz_ri X (fz_cast (rfl) hW) (by rw [hz, e12]) dX4_anew_42
      · skip
        have h12 : t < 48 := Nat.not_le.mp (fun z => c12 ((nI_leI (a := 48) (b := t) (by omega) (by omega)).mpr z))
        refine lv_iload_n hx hb dX4_anew_15 rfl (lv_at hl 1 rfl) ?_
        refine lv_aload_n hx hb dX4_anew_16 rfl (lv_at hl 0 rfl) ?_
        refine gf_X4_7 X hW 0 rfl rfl dX4_anew_17 ?_
        refine lv_iload_n hx hb dX4_anew_20 rfl (lv_at hl 2 rfl) ?_
        refine fz_il X hW 1 (t) rfl rfl (by omega) (by decide) dX4_anew_21 ?_
        refine lv_bipush (v := 64) hx hb dX4_anew_22 (by decide) ?_
        refine lv_icmp_ge (tgt := 31) hx hb dX4_anew_24 (by decide) (fun c24 => ?_) (fun c24 => ?_)
        · skip
          have c24 : ¬ m0.near t < 64 := Int32.not_lt.mpr c24
          refine lv_bipush (v := 6) hx hb dX4_anew_31 (by decide) ?_
          refine lv_iadd hx hb dX4_anew_33 ?_
          refine lv_istore_n (lv' := [(1, .int (z + 6)), (0, .ref (o 0)), (2, .int (nI t))]) hx hb dX4_anew_34 rfl hl (by decide) rfl (fun ls hl => ?_)
          refine lv_iinc (v := nI (t + 1)) (lv' := [(2, .int (nI (t + 1))), (1, .int (z + 6)), (0, .ref (o 0))]) hx hb dX4_anew_35 hl (k := 2) rfl (nI_1 _) (by decide) rfl (fun ls hl => ?_)
          refine lv_goto (tgt := 9) hx hb dX4_anew_38 (by decide) ?_
          exact ih9 (t + 1) _ (by omega) (by omega) (by rw [hz]; exact (congrArg (manF m0.near t + ·) (if_neg c24)).symm) _ _ _ (fz_cast (rfl) hW) (lv_sub hl [2, 1, 0] rfl)
        · skip
          have c24 : m0.near t < 64 := Int32.not_le.mp c24
          refine lv_iconst (v := 2) hx hb dX4_anew_27 (by decide) ?_
          refine lv_goto (tgt := 33) hx hb dX4_anew_28 (by decide) ?_
          refine lv_iadd hx hb dX4_anew_33 ?_
          refine lv_istore_n (lv' := [(1, .int (z + 2)), (0, .ref (o 0)), (2, .int (nI t))]) hx hb dX4_anew_34 rfl hl (by decide) rfl (fun ls hl => ?_)
          refine lv_iinc (v := nI (t + 1)) (lv' := [(2, .int (nI (t + 1))), (1, .int (z + 2)), (0, .ref (o 0))]) hx hb dX4_anew_35 hl (k := 2) rfl (nI_1 _) (by decide) rfl (fun ls hl => ?_)
          refine lv_goto (tgt := 9) hx hb dX4_anew_38 (by decide) ?_
          exact ih9 (t + 1) _ (by omega) (by omega) (by rw [hz]; exact (congrArg (manF m0.near t + ·) (if_pos c24)).symm) _ _ _ (fz_cast (rfl) hW) (lv_sub hl [2, 1, 0] rfl)
  exact loop9 49 0 0 (by omega) (by omega) rfl _ _ _ (fz_cast (rfl) hW) (lv_sub hl [2, 1, 0] rfl)
set_option maxHeartbeats 4000000 in
set_option maxRecDepth 100000 in
theorem c_X4_known (l : Launch) (g : GG) (o : Nat → Nat) (m0 : MV) (x : Int32) (hp : m0.pics ≤ 8) : fz_C l g yX4_known cX4_known 2 (some .int) 1 22 [.ref (o 0), .int x] (MW g o m0) (MW g o (mkV m0 x)) (some (.int (mkR m0 x))) := by
  refine fz_C.of (by decide) (Nat.le_of_ble_eq_true rfl) ?_
  intro p e s m args below meth c A ls X hW hl
  have hx := X.1
  have hb := X.2.1
  have hl : lv_has ls 2 [(0, .ref (o 0)), (1, .int x)] := hl
  have X : fz_X p s m meth c RX4 cX4_known 2 (some .int) g A := X
  have hW : fz_W g A s (MW g o m0) s.heap [] := hW
  refine lv_aload_n hx hb dX4_known_0 rfl (lv_at hl 0 rfl) ?_
  refine lv_iload_n hx hb dX4_known_1 rfl (lv_at hl 1 rfl) ?_
  refine lv_iconst (v := 0) hx hb dX4_known_2 (by decide) ?_
  refine lv_aload_n hx hb dX4_known_3 rfl (lv_at hl 0 rfl) ?_
  refine gf_X4_94 X hW 0 rfl rfl dX4_known_4 ?_
  refine lv_iconst (v := 1) hx hb dX4_known_7 (by decide) ?_
  refine lv_isub hx hb dX4_known_8 ?_
  refine fz_cSi X hW (c_X4_isIn l g x 0 (nI m0.pics - 1) _) lk_X4_57 rfl ⟨Nat.le_of_ble_eq_true rfl, Nat.le_of_ble_eq_true rfl⟩ hl rfl (Nat.le_of_ble_eq_true rfl) dX4_known_9 ⟨Nat.le_refl _, Nat.le_refl _⟩ (fun H locs hW => ?_)
  refine lv_if_eq (tgt := 19) hx hb dX4_known_12 (by decide) (fun c12 => ?_) (fun c12 => ?_)
  · skip
    have kt : ¬ inI x 0 (nI m0.pics - 1) := b01_0.mp c12
    refine lv_iconst (v := 1) hx hb dX4_known_19 (by decide) ?_
    refine pf_X4_53 X hW 0 rfl (Nat.le_of_ble_eq_true rfl) dX4_known_20 (fun H locs hW => ?_)
    refine lv_aload_n hx hb dX4_known_23 rfl (lv_at hl 0 rfl) ?_
    refine gf_X4_53 X hW 0 rfl rfl dX4_known_24 ?_
    refine lv_if_le (tgt := 34) hx hb dX4_known_27 (by decide) (fun c27 => ?_) (fun c27 => ?_)
    · first | exact absurd c27 (by decide) | exact absurd (by decide) c27
    · skip
      refine lv_iconst (v := 0) hx hb dX4_known_30 (by decide) ?_
      refine lv_goto (tgt := 40) hx hb dX4_known_31 (by decide) ?_
      exact fz_ri X (fz_cast (by unfold mkV; rw [if_neg kt] <;> rfl) hW) (by unfold mkR; rw [if_neg kt]) dX4_known_40
  · skip
    have kt : inI x 0 (nI m0.pics - 1) := b01_1 c12
    obtain ⟨i, hi, ei⟩ := inI_k hp kt
    refine lv_iconst (v := 0) hx hb dX4_known_15 (by decide) ?_
    refine lv_goto (tgt := 20) hx hb dX4_known_16 (by decide) ?_
    refine pf_X4_53 X hW 0 rfl (Nat.le_of_ble_eq_true rfl) dX4_known_20 (fun H locs hW => ?_)
    refine lv_aload_n hx hb dX4_known_23 rfl (lv_at hl 0 rfl) ?_
    refine gf_X4_53 X hW 0 rfl rfl dX4_known_24 ?_
    refine lv_if_le (tgt := 34) hx hb dX4_known_27 (by decide) (fun c27 => ?_) (fun c27 => ?_)
    · skip
      refine lv_aload_n hx hb dX4_known_34 rfl (lv_at hl 0 rfl) ?_
      refine gf_X4_34 X hW 0 rfl rfl dX4_known_35 ?_
      refine lv_iload_n hx hb dX4_known_38 rfl (lv_at hl 1 rfl) ?_
      refine fz_il X hW 9 (i) rfl ei (by omega) (by decide) dX4_known_39 ?_
      exact fz_ri X (fz_cast (by unfold mkV; rw [if_pos kt] <;> rfl) hW) (by unfold mkR; rw [if_pos kt, ei, nI_clamp (by omega)] <;> rfl) dX4_known_40
    · first | exact absurd c27 (by decide) | exact absurd (by decide) c27
set_option maxHeartbeats 4000000 in
set_option maxRecDepth 100000 in
theorem c_X4_sent (l : Launch) (g : GG) (o : Nat → Nat) (m0 : MV) (x : Int32) : fz_C l g yX4_sent cX4_sent 2 (some .int) 1 22 [.ref (o 0), .int x] (MW g o m0) (MW g o (mqV m0 x)) (some (.int (mqR m0 x))) := by
  refine fz_C.of (by decide) (Nat.le_of_ble_eq_true rfl) ?_
  intro p e s m args below meth c A ls X hW hl
  have hx := X.1
  have hb := X.2.1
  have hl : lv_has ls 2 [(0, .ref (o 0)), (1, .int x)] := hl
  have X : fz_X p s m meth c RX4 cX4_sent 2 (some .int) g A := X
  have hW : fz_W g A s (MW g o m0) s.heap [] := hW
  refine lv_aload_n hx hb dX4_sent_0 rfl (lv_at hl 0 rfl) ?_
  refine lv_iload_n hx hb dX4_sent_1 rfl (lv_at hl 1 rfl) ?_
  refine lv_iconst (v := 0) hx hb dX4_sent_2 (by decide) ?_
  refine lv_iconst (v := 3) hx hb dX4_sent_3 (by decide) ?_
  refine fz_cSi X hW (c_X4_isIn l g x 0 3 _) lk_X4_57 rfl ⟨Nat.le_of_ble_eq_true rfl, Nat.le_of_ble_eq_true rfl⟩ hl rfl (Nat.le_of_ble_eq_true rfl) dX4_sent_4 ⟨Nat.le_refl _, Nat.le_refl _⟩ (fun H locs hW => ?_)
  refine lv_if_eq (tgt := 14) hx hb dX4_sent_7 (by decide) (fun c7 => ?_) (fun c7 => ?_)
  · skip
    have kt : ¬ inI x 0 3 := b01_0.mp c7
    refine lv_iconst (v := 1) hx hb dX4_sent_14 (by decide) ?_
    refine pf_X4_53 X hW 0 rfl (Nat.le_of_ble_eq_true rfl) dX4_sent_15 (fun H locs hW => ?_)
    refine lv_aload_n hx hb dX4_sent_18 rfl (lv_at hl 0 rfl) ?_
    refine gf_X4_53 X hW 0 rfl rfl dX4_sent_19 ?_
    refine lv_if_le (tgt := 29) hx hb dX4_sent_22 (by decide) (fun c22 => ?_) (fun c22 => ?_)
    · first | exact absurd c22 (by decide) | exact absurd (by decide) c22
    · skip
      refine lv_iconst (v := 0) hx hb dX4_sent_25 (by decide) ?_
      refine lv_goto (tgt := 35) hx hb dX4_sent_26 (by decide) ?_
      exact fz_ri X (fz_cast (by unfold mqV; rw [if_neg kt] <;> rfl) hW) (by unfold mqR; rw [if_neg kt]) dX4_sent_35
  · skip
    have kt : inI x 0 3 := b01_1 c7
    obtain ⟨i, hi, ei⟩ := inI_s kt
    refine lv_iconst (v := 0) hx hb dX4_sent_10 (by decide) ?_
    refine lv_goto (tgt := 15) hx hb dX4_sent_11 (by decide) ?_
    refine pf_X4_53 X hW 0 rfl (Nat.le_of_ble_eq_true rfl) dX4_sent_15 (fun H locs hW => ?_)
    refine lv_aload_n hx hb dX4_sent_18 rfl (lv_at hl 0 rfl) ?_
    refine gf_X4_53 X hW 0 rfl rfl dX4_sent_19 ?_
    refine lv_if_le (tgt := 29) hx hb dX4_sent_22 (by decide) (fun c22 => ?_) (fun c22 => ?_)
    · skip
      refine lv_aload_n hx hb dX4_sent_29 rfl (lv_at hl 0 rfl) ?_
      refine gf_X4_37 X hW 0 rfl rfl dX4_sent_30 ?_
      refine lv_iload_n hx hb dX4_sent_33 rfl (lv_at hl 1 rfl) ?_
      refine fz_il X hW 10 (i) rfl ei (by omega) (by decide) dX4_sent_34 ?_
      exact fz_ri X (fz_cast (by unfold mqV; rw [if_pos kt] <;> rfl) hW) (by unfold mqR; rw [if_pos kt, ei, nI_clamp (by omega)] <;> rfl) dX4_sent_35
    · first | exact absurd c22 (by decide) | exact absurd (by decide) c22
