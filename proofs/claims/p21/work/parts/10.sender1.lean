theorem piF_ok (v : SV) : ∀ t, t ≤ 48 → (piF v t).1 ≤ t ∧ ∀ j, j < (piF v t).1 → ∃ u, u < 48 ∧ (piF v t).2.2 j = nI u := by
  have key : ∀ (wv : Nat → Int32) (t c : Nat), t < 48 → ∀ (p : Nat) (o : Nat → Int32), p ≤ c → (∀ j, j < c + 1 → j ≠ p → ∃ u, u < 48 ∧ o j = nI u) → ∀ j, j < c + 1 → ∃ u, u < 48 ∧ insF wv t p o j = nI u := by
    intro wv t c ht p
    induction p with
    | zero =>
      intro o hp ho j hj
      show ∃ u, u < 48 ∧ upd o 0 (nI t) j = nI u
      by_cases h : j = 0
      · subst h
        exact ⟨t, ht, pk_us⟩
      · rw [pk_un h]
        exact ho j hj h
    | succ p ih =>
      intro o hp ho j hj
      show ∃ u, u < 48 ∧ (if wv (o p).toNatClampNeg < wv t then insF wv t p (upd o (p + 1) (o p)) else upd o (p + 1) (nI t)) j = nI u
      split
      · refine ih _ (by omega) (fun i hi hne => ?_) j hj
        by_cases h : i = p + 1
        · subst h
          rw [pk_us]
          exact ho p (by omega) (by omega)
        · rw [pk_un h]
          exact ho i hi h
      · by_cases h : j = p + 1
        · subst h
          exact ⟨t, ht, pk_us⟩
        · rw [pk_un h]
          exact ho j hj h
  intro t
  induction t with
  | zero => intro _; exact ⟨Nat.le_refl _, fun j hj => absurd hj (Nat.not_lt_zero _)⟩
  | succ t ih =>
    intro ht
    obtain ⟨h1, h2⟩ := ih (by omega)
    by_cases h : v.since t = -1
    · have e : piF v (t + 1) = piF v t := if_pos h
      rw [e]
      exact ⟨by omega, h2⟩
    · have e : piF v (t + 1) = ((piF v t).1 + 1, upd (piF v t).2.1 t (woI v t), insF (upd (piF v t).2.1 t (woI v t)) t (piF v t).1 (piF v t).2.2) := if_neg h
      rw [e]
      refine ⟨by show (piF v t).1 + 1 ≤ t + 1; omega, fun j hj => ?_⟩
      exact key _ t (piF v t).1 (by omega) (piF v t).1 _ (Nat.le_refl _) (fun i hi hne => h2 i (by omega)) j hj
theorem mtC_le (kp : Nat → Int32) (kc : Nat) (x : Int32) (h : kc ≤ 8) : mtC kp kc x ≤ 8 := by
  unfold mtC
  split
  · split <;> omega
  · exact h
theorem stR_keep (v : SV) (t : Nat) (b : Int32) (h : v.kc ≤ 8) : (stR v t b).2.order = v.order ∧ (stR v t b).2.kc ≤ 8 := by
  have sp : ∀ w c, (spR v t w c b).2.order = v.order ∧ (spR v t w c b).2.kc ≤ 8 := by
    intro w c
    unfold spR
    split
    · exact ⟨rfl, h⟩
    · exact ⟨rfl, mtC_le _ _ _ h⟩
  have sr : (srR v t b).2.order = v.order ∧ (srR v t b).2.kc ≤ 8 := by
    unfold srR
    split
    · exact ⟨rfl, h⟩
    · split
      · exact ⟨rfl, h⟩
      · exact ⟨rfl, h⟩
  unfold stR
  split
  · split
    · exact sr
    · exact sp _ _
  · exact sp _ _
theorem saF_keep (v : SV) (b : Int32) (h : v.kc ≤ 8) : ∀ p, (saF v b p).2.order = v.order ∧ (saF v b p).2.kc ≤ 8 := by
  intro p
  induction p with
  | zero => exact ⟨rfl, h⟩
  | succ p ih =>
    have k := stR_keep (saF v b p).2 ((saF v b p).2.order p).toNatClampNeg (saF v b p).1 ih.2
    exact ⟨k.1.trans ih.1, k.2⟩
theorem tlF_keep (b : Int32) : ∀ (k : Nat) (v : SV) (told : Nat), (tlF b v told k).2.mv = v.mv ∧ (tlF b v told k).2.wm = v.wm ∧ (tlF b v told k).2.kc = v.kc ∧ told ≤ (tlF b v told k).1 ∧ (tlF b v told k).1 ≤ told + k := by
  intro k
  induction k with
  | zero => intro v told; exact ⟨rfl, rfl, rfl, Nat.le_refl _, Nat.le_refl _⟩
  | succ k ih =>
    intro v told
    by_cases h : b - nI told * 2 < 2
    · have e : tlF b v told (k + 1) = (told, v) := if_pos h
      rw [e]
      exact ⟨rfl, rfl, rfl, Nat.le_refl _, by show told ≤ _; omega⟩
    · have e : tlF b v told (k + 1) = tlF b (nuV (afV v told)) (told + 1) k := if_neg h
      obtain ⟨h1, h2, h3, h4, h5⟩ := ih (nuV (afV v told)) (told + 1)
      rw [e]
      exact ⟨h1, h2, h3, by omega, by omega⟩
theorem fz_01 {x : Int32} (h : x = 0 ∨ x = 1) : narrow .boolean (.int x) = .int x := by
  rcases h with h | h <;> rw [h] <;> rfl
theorem hfF_01 (v : SV) : ∀ k i, hfF v i k = 0 ∨ hfF v i k = 1 := by
  intro k
  induction k with
  | zero => intro i; exact Or.inl rfl
  | succ k ih =>
    intro i
    show (if kdI v i = 2 then 1 else hfF v (i + 1) k) = 0 ∨ (if kdI v i = 2 then 1 else hfF v (i + 1) k) = 1
    split
    · exact Or.inr rfl
    · exact ih (i + 1)
theorem lkI_01 (x t : Nat) : lkI x t = 0 ∨ lkI x t = 1 := by
  unfold lkI
  split
  · exact Or.inl rfl
  · split
    · exact Or.inl rfl
    · exact Or.inr rfl
theorem alI_01 (v : SV) : alI v = 0 ∨ alI v = 1 := by
  unfold alI
  split
  · split
    · exact Or.inr rfl
    · exact Or.inl rfl
  · exact Or.inl rfl
set_option maxHeartbeats 4000000 in
set_option maxRecDepth 100000 in
theorem c_X2_noteChanges (l : Launch) (g : GG) (a : Nat → Nat) (v : SV) : fz_C l g yX2_noteChanges cX2_noteChanges 2 none 0 0 [.ref (a 0)] (SW g a v) (SW g a (ncV v)) none := by
  refine fz_C.of (by decide) (Nat.le_of_ble_eq_true rfl) ?_
  intro p e s m args below meth c A ls X hW hl
  have hx := X.1
  have hb := X.2.1
  have hl : lv_has ls 2 [(0, .ref (a 0))] := hl
  have X : fz_X p s m meth c RX2 cX2_noteChanges 2 none g A := X
  have hW : fz_W g A s (SW g a v) s.heap [] := hW
  refine lv_iconst (v := 0) hx hb dX2_noteChanges_0 (by decide) ?_
  refine lv_istore_n (lv' := [(1, .int 0), (0, .ref (a 0))]) hx hb dX2_noteChanges_1 rfl hl (by decide) rfl (fun ls hl => ?_)
  have loop2 : ∀ (k : Nat) (t : Nat), t ≤ 48 → 48 < t + k → ∀ (H : Heap) (locs : List Loc) (ls : Array Slot), fz_W g A s (SW g a (v.chS (fz_to (ncF v) v.ch t))) H locs → lv_has ls 2 [(0, .ref (a 0)), (1, .int (nI t))] → W p l e (fz_R 0 0 0 0) s m args below meth c H locs 0 0 (MQ below (fz_Q g (SW g a (ncV v)) none A) args s 0 0 A) (F0 m 2 ls []) := by
    intro k
    induction k with
    | zero =>
      intro t ht hk
      omega
    | succ k ih2 =>
      intro t ht hkt H locs ls hW hl
      refine lv_iload_n hx hb dX2_noteChanges_2 rfl (lv_at hl 1 rfl) ?_
      refine lv_bipush (v := 48) hx hb dX2_noteChanges_3 (by decide) ?_
      refine lv_icmp_ge (tgt := 39) hx hb dX2_noteChanges_5 (by decide) (fun c5 => ?_) (fun c5 => ?_)
      · skip
        have h5 : 48 ≤ t := (nI_leI (a := 48) (b := t) (by omega) (by omega)).mp c5
        have e5 : t = 48 := by omega
        have hl := lv_sub hl [0] rfl
        have hl : lv_has ls 2 [(0, .ref (a 0))] := hl
        exact fz_rv X (fz_cast (by rw [e5]; rfl) hW) dX2_noteChanges_39
      · skip
        have h5 : t < 48 := Nat.not_le.mp (fun z => c5 ((nI_leI (a := 48) (b := t) (by omega) (by omega)).mpr z))
        refine lv_aload_n hx hb dX2_noteChanges_8 rfl (lv_at hl 0 rfl) ?_
        refine gf_X2_9 X hW 0 rfl rfl dX2_noteChanges_9 ?_
        refine lv_iload_n hx hb dX2_noteChanges_12 rfl (lv_at hl 1 rfl) ?_
        refine fz_il X hW 1 (t) rfl rfl (by omega) (by decide) dX2_noteChanges_13 ?_
        refine lv_aload_n hx hb dX2_noteChanges_14 rfl (lv_at hl 0 rfl) ?_
        refine gf_X2_30 X hW 0 rfl rfl dX2_noteChanges_15 ?_
        refine lv_iload_n hx hb dX2_noteChanges_18 rfl (lv_at hl 1 rfl) ?_
        refine fz_il X hW 7 (t) rfl rfl (by omega) (by decide) dX2_noteChanges_19 ?_
        refine lv_icmp_eq (tgt := 33) hx hb dX2_noteChanges_20 (by decide) (fun c20 => ?_) (fun c20 => ?_)
        · skip
          refine lv_iinc (v := nI (t + 1)) (lv' := [(1, .int (nI (t + 1))), (0, .ref (a 0))]) hx hb dX2_noteChanges_33 hl (k := 1) rfl (nI_1 _) (by decide) rfl (fun ls hl => ?_)
          refine lv_goto (tgt := 2) hx hb dX2_noteChanges_36 (by decide) ?_
          exact ih2 (t + 1) (by omega) (by omega) _ _ _ (fz_cast (congrArg (fun z => SW g a (SV.chS v z)) (fz_to_n (ncF v) v.ch t (if_pos c20).symm)) hW) (lv_sub hl [1, 0] rfl)
        · skip
          refine lv_aload_n hx hb dX2_noteChanges_23 rfl (lv_at hl 0 rfl) ?_
          refine gf_X2_21 X hW 0 rfl rfl dX2_noteChanges_24 ?_
          refine lv_iload_n hx hb dX2_noteChanges_27 rfl (lv_at hl 1 rfl) ?_
          refine lv_dup2_11 hx hb dX2_noteChanges_28 rfl rfl ?_
          refine fz_il X hW 4 (t) rfl rfl (by omega) (by decide) dX2_noteChanges_29 ?_
          refine lv_iconst (v := 1) hx hb dX2_noteChanges_30 (by decide) ?_
          refine lv_ior hx hb dX2_noteChanges_31 ?_
          refine fz_is X hW 4 (t) rfl rfl (by omega) (by decide) dX2_noteChanges_32 (fun H locs hW => ?_)
          refine lv_iinc (v := nI (t + 1)) (lv' := [(1, .int (nI (t + 1))), (0, .ref (a 0))]) hx hb dX2_noteChanges_33 hl (k := 1) rfl (nI_1 _) (by decide) rfl (fun ls hl => ?_)
          refine lv_goto (tgt := 2) hx hb dX2_noteChanges_36 (by decide) ?_
          exact ih2 (t + 1) (by omega) (by omega) _ _ _ (fz_cast (congrArg (fun z => SW g a (SV.chS v z)) (fz_to_s (ncF v) v.ch t (by show fz_to (ncF v) v.ch t t ||| 1 = _; rw [fz_to_ge (Nat.le_refl _)]; exact (if_neg c20).symm))) hW) (lv_sub hl [1, 0] rfl)
  exact loop2 (48 + 1) 0 (by omega) (by omega) _ _ _ (fz_cast (congrArg (fun z => SW g a (SV.chS v z)) (fz_to_0 _ _).symm) hW) (lv_sub hl [1, 0] rfl)
set_option maxHeartbeats 4000000 in
set_option maxRecDepth 100000 in
theorem c_X2_noteUnlike (l : Launch) (g : GG) (a : Nat → Nat) (v : SV) : fz_C l g yX2_noteUnlike cX2_noteUnlike 2 none 0 0 [.ref (a 0)] (SW g a v) (SW g a (nuV v)) none := by
  refine fz_C.of (by decide) (Nat.le_of_ble_eq_true rfl) ?_
  intro p e s m args below meth c A ls X hW hl
  have hx := X.1
  have hb := X.2.1
  have hl : lv_has ls 2 [(0, .ref (a 0))] := hl
  have X : fz_X p s m meth c RX2 cX2_noteUnlike 2 none g A := X
  have hW : fz_W g A s (SW g a v) s.heap [] := hW
  refine lv_iconst (v := 0) hx hb dX2_noteUnlike_0 (by decide) ?_
  refine lv_istore_n (lv' := [(1, .int 0), (0, .ref (a 0))]) hx hb dX2_noteUnlike_1 rfl hl (by decide) rfl (fun ls hl => ?_)
  have loop2 : ∀ (k : Nat) (t : Nat), t ≤ 48 → 48 < t + k → ∀ (H : Heap) (locs : List Loc) (ls : Array Slot), fz_W g A s (SW g a (v.sinceS (fz_to (nuF v) v.since t))) H locs → lv_has ls 2 [(0, .ref (a 0)), (1, .int (nI t))] → W p l e (fz_R 0 0 0 0) s m args below meth c H locs 0 0 (MQ below (fz_Q g (SW g a (nuV v)) none A) args s 0 0 A) (F0 m 2 ls []) := by
    intro k
    induction k with
    | zero =>
      intro t ht hk
      omega
    | succ k ih2 =>
      intro t ht hkt H locs ls hW hl
      refine lv_iload_n hx hb dX2_noteUnlike_2 rfl (lv_at hl 1 rfl) ?_
      refine lv_bipush (v := 48) hx hb dX2_noteUnlike_3 (by decide) ?_
      refine lv_icmp_ge (tgt := 59) hx hb dX2_noteUnlike_5 (by decide) (fun c5 => ?_) (fun c5 => ?_)
      · skip
        have h5 : 48 ≤ t := (nI_leI (a := 48) (b := t) (by omega) (by omega)).mp c5
        have e5 : t = 48 := by omega
        have hl := lv_sub hl [0] rfl
        have hl : lv_has ls 2 [(0, .ref (a 0))] := hl
        exact fz_rv X (fz_cast (by rw [e5]; rfl) hW) dX2_noteUnlike_59
      · skip
        have h5 : t < 48 := Nat.not_le.mp (fun z => c5 ((nI_leI (a := 48) (b := t) (by omega) (by omega)).mpr z))
        refine lv_aload_n hx hb dX2_noteUnlike_8 rfl (lv_at hl 0 rfl) ?_
        refine gf_X2_9 X hW 0 rfl rfl dX2_noteUnlike_9 ?_
        refine lv_iload_n hx hb dX2_noteUnlike_12 rfl (lv_at hl 1 rfl) ?_
        refine fz_il X hW 1 (t) rfl rfl (by omega) (by decide) dX2_noteUnlike_13 ?_
        refine lv_aload_n hx hb dX2_noteUnlike_14 rfl (lv_at hl 0 rfl) ?_
        refine gf_X2_15 X hW 0 rfl rfl dX2_noteUnlike_15 ?_
        refine lv_iload_n hx hb dX2_noteUnlike_18 rfl (lv_at hl 1 rfl) ?_
        refine fz_il X hW 2 (t) rfl rfl (by omega) (by decide) dX2_noteUnlike_19 ?_
        refine lv_icmp_ne (tgt := 33) hx hb dX2_noteUnlike_20 (by decide) (fun c20 => ?_) (fun c20 => ?_)
        · skip
          have c20 : ¬ v.near t = v.far t := c20
          refine lv_aload_n hx hb dX2_noteUnlike_33 rfl (lv_at hl 0 rfl) ?_
          refine gf_X2_18 X hW 0 rfl rfl dX2_noteUnlike_34 ?_
          refine lv_iload_n hx hb dX2_noteUnlike_37 rfl (lv_at hl 1 rfl) ?_
          refine fz_il X hW 3 (t) rfl rfl (by omega) (by decide) dX2_noteUnlike_38 ?_
          refine lv_iconst (v := (-1)) hx hb dX2_noteUnlike_39 (by decide) ?_
          refine lv_icmp_ne (tgt := 53) hx hb dX2_noteUnlike_40 (by decide) (fun c40 => ?_) (fun c40 => ?_)
          · skip
            have h40 : ¬ v.since t = -1 := by
              have h : fz_to (nuF v) v.since t t = v.since t := fz_to_ge (Nat.le_refl _)
              rw [← h]; exact c40
            refine lv_iinc (v := nI (t + 1)) (lv' := [(1, .int (nI (t + 1))), (0, .ref (a 0))]) hx hb dX2_noteUnlike_53 hl (k := 1) rfl (nI_1 _) (by decide) rfl (fun ls hl => ?_)
            refine lv_goto (tgt := 2) hx hb dX2_noteUnlike_56 (by decide) ?_
            exact ih2 (t + 1) (by omega) (by omega) _ _ _ (fz_cast (congrArg (fun z => SW g a (SV.sinceS v z)) (fz_to_n (nuF v) v.since t (by unfold nuF; rw [if_neg c20]; exact (if_neg h40).symm))) hW) (lv_sub hl [1, 0] rfl)
          · skip
            have h40 : v.since t = -1 := by
              have h : fz_to (nuF v) v.since t t = v.since t := fz_to_ge (Nat.le_refl _)
              rw [← h]; exact c40
            refine lv_aload_n hx hb dX2_noteUnlike_43 rfl (lv_at hl 0 rfl) ?_
            refine gf_X2_18 X hW 0 rfl rfl dX2_noteUnlike_44 ?_
            refine lv_iload_n hx hb dX2_noteUnlike_47 rfl (lv_at hl 1 rfl) ?_
            refine lv_aload_n hx hb dX2_noteUnlike_48 rfl (lv_at hl 0 rfl) ?_
            refine gf_X2_56 X hW 0 rfl rfl dX2_noteUnlike_49 ?_
            refine fz_is X hW 3 (t) rfl rfl (by omega) (by decide) dX2_noteUnlike_52 (fun H locs hW => ?_)
            refine lv_iinc (v := nI (t + 1)) (lv' := [(1, .int (nI (t + 1))), (0, .ref (a 0))]) hx hb dX2_noteUnlike_53 hl (k := 1) rfl (nI_1 _) (by decide) rfl (fun ls hl => ?_)
            refine lv_goto (tgt := 2) hx hb dX2_noteUnlike_56 (by decide) ?_
            exact ih2 (t + 1) (by omega) (by omega) _ _ _ (fz_cast (congrArg (fun z => SW g a (SV.sinceS v z)) (fz_to_s (nuF v) v.since t (by unfold nuF; rw [if_neg c20]; exact (if_pos h40).symm))) hW) (lv_sub hl [1, 0] rfl)
        · skip
          have c20 : v.near t = v.far t := c20
          refine lv_aload_n hx hb dX2_noteUnlike_23 rfl (lv_at hl 0 rfl) ?_
          refine gf_X2_18 X hW 0 rfl rfl dX2_noteUnlike_24 ?_
          refine lv_iload_n hx hb dX2_noteUnlike_27 rfl (lv_at hl 1 rfl) ?_
          refine lv_iconst (v := (-1)) hx hb dX2_noteUnlike_28 (by decide) ?_
          refine fz_is X hW 3 (t) rfl rfl (by omega) (by decide) dX2_noteUnlike_29 (fun H locs hW => ?_)
          refine lv_goto (tgt := 53) hx hb dX2_noteUnlike_30 (by decide) ?_
          refine lv_iinc (v := nI (t + 1)) (lv' := [(1, .int (nI (t + 1))), (0, .ref (a 0))]) hx hb dX2_noteUnlike_53 hl (k := 1) rfl (nI_1 _) (by decide) rfl (fun ls hl => ?_)
          refine lv_goto (tgt := 2) hx hb dX2_noteUnlike_56 (by decide) ?_
          exact ih2 (t + 1) (by omega) (by omega) _ _ _ (fz_cast (congrArg (fun z => SW g a (SV.sinceS v z)) (fz_to_s (nuF v) v.since t (if_pos c20).symm)) hW) (lv_sub hl [1, 0] rfl)
  exact loop2 (48 + 1) 0 (by omega) (by omega) _ _ _ (fz_cast (congrArg (fun z => SW g a (SV.sinceS v z)) (fz_to_0 _ _).symm) hW) (lv_sub hl [1, 0] rfl)
set_option maxHeartbeats 4000000 in
set_option maxRecDepth 100000 in
theorem c_X2_settleChanges (l : Launch) (g : GG) (a : Nat → Nat) (v : SV) : fz_C l g yX2_settleChanges cX2_settleChanges 2 none 0 0 [.ref (a 0)] (SW g a v) (SW g a (scV v)) none := by
  refine fz_C.of (by decide) (Nat.le_of_ble_eq_true rfl) ?_
  intro p e s m args below meth c A ls X hW hl
  have hx := X.1
  have hb := X.2.1
  have hl : lv_has ls 2 [(0, .ref (a 0))] := hl
  have X : fz_X p s m meth c RX2 cX2_settleChanges 2 none g A := X
  have hW : fz_W g A s (SW g a v) s.heap [] := hW
  refine lv_iconst (v := 0) hx hb dX2_settleChanges_0 (by decide) ?_
  refine lv_istore_n (lv' := [(1, .int 0), (0, .ref (a 0))]) hx hb dX2_settleChanges_1 rfl hl (by decide) rfl (fun ls hl => ?_)
  have loop2 : ∀ (k : Nat) (t : Nat), t ≤ 48 → 48 < t + k → ∀ (H : Heap) (locs : List Loc) (ls : Array Slot), fz_W g A s (SW g a (v.chS (fz_to (fun t => v.ch t <<< ((1 : Int32) &&& 31) &&& 255) v.ch t))) H locs → lv_has ls 2 [(0, .ref (a 0)), (1, .int (nI t))] → W p l e (fz_R 0 0 0 0) s m args below meth c H locs 0 0 (MQ below (fz_Q g (SW g a (scV v)) none A) args s 0 0 A) (F0 m 2 ls []) := by
    intro k
    induction k with
    | zero =>
      intro t ht hk
      omega
    | succ k ih2 =>
      intro t ht hkt H locs ls hW hl
      refine lv_iload_n hx hb dX2_settleChanges_2 rfl (lv_at hl 1 rfl) ?_
      refine lv_bipush (v := 48) hx hb dX2_settleChanges_3 (by decide) ?_
      refine lv_icmp_ge (tgt := 32) hx hb dX2_settleChanges_5 (by decide) (fun c5 => ?_) (fun c5 => ?_)
      · skip
        have h5 : 48 ≤ t := (nI_leI (a := 48) (b := t) (by omega) (by omega)).mp c5
        have e5 : t = 48 := by omega
        have hl := lv_sub hl [0] rfl
        have hl : lv_has ls 2 [(0, .ref (a 0))] := hl
        exact fz_rv X (fz_cast (by rw [e5]; rfl) hW) dX2_settleChanges_32
      · skip
        have h5 : t < 48 := Nat.not_le.mp (fun z => c5 ((nI_leI (a := 48) (b := t) (by omega) (by omega)).mpr z))
        refine lv_aload_n hx hb dX2_settleChanges_8 rfl (lv_at hl 0 rfl) ?_
        refine gf_X2_21 X hW 0 rfl rfl dX2_settleChanges_9 ?_
        refine lv_iload_n hx hb dX2_settleChanges_12 rfl (lv_at hl 1 rfl) ?_
        refine lv_aload_n hx hb dX2_settleChanges_13 rfl (lv_at hl 0 rfl) ?_
        refine gf_X2_21 X hW 0 rfl rfl dX2_settleChanges_14 ?_
        refine lv_iload_n hx hb dX2_settleChanges_17 rfl (lv_at hl 1 rfl) ?_
        refine fz_il X hW 4 (t) rfl rfl (by omega) (by decide) dX2_settleChanges_18 ?_
        refine lv_iconst (v := 1) hx hb dX2_settleChanges_19 (by decide) ?_
        refine lv_ishl hx hb dX2_settleChanges_20 ?_
        refine lv_sipush (v := 255) hx hb dX2_settleChanges_21 (by decide) ?_
        refine lv_iand hx hb dX2_settleChanges_24 ?_
        refine fz_is X hW 4 (t) rfl rfl (by omega) (by decide) dX2_settleChanges_25 (fun H locs hW => ?_)
        refine lv_iinc (v := nI (t + 1)) (lv' := [(1, .int (nI (t + 1))), (0, .ref (a 0))]) hx hb dX2_settleChanges_26 hl (k := 1) rfl (nI_1 _) (by decide) rfl (fun ls hl => ?_)
        refine lv_goto (tgt := 2) hx hb dX2_settleChanges_29 (by decide) ?_
        exact ih2 (t + 1) (by omega) (by omega) _ _ _ (fz_cast (congrArg (fun z => SW g a (SV.chS v z)) (fz_to_s (fun t => v.ch t <<< ((1 : Int32) &&& 31) &&& 255) v.ch t (by show fz_to (fun t => v.ch t <<< ((1 : Int32) &&& 31) &&& 255) v.ch t t <<< ((1 : Int32) &&& 31) &&& 255 = _; rw [fz_to_ge (Nat.le_refl _)]))) hW) (lv_sub hl [1, 0] rfl)
  exact loop2 (48 + 1) 0 (by omega) (by omega) _ _ _ (fz_cast (congrArg (fun z => SW g a (SV.chS v z)) (fz_to_0 _ _).symm) hW) (lv_sub hl [1, 0] rfl)
set_option maxHeartbeats 4000000 in
set_option maxRecDepth 100000 in
theorem c_X2_kindOf (l : Launch) (g : GG) (a : Nat → Nat) (v : SV) (t : Nat) (ht : t < 48) : fz_C l g yX2_kindOf cX2_kindOf 2 (some .int) 1 20 [.ref (a 0), .int (nI t)] (SW g a v) (SW g a v) (some (.int (kdI v t))) := by
  refine fz_C.of (by decide) (Nat.le_of_ble_eq_true rfl) ?_
  intro p e s m args below meth c A ls X hW hl
  have hx := X.1
  have hb := X.2.1
  have hl : lv_has ls 2 [(0, .ref (a 0)), (1, .int (nI t))] := hl
  have X : fz_X p s m meth c RX2 cX2_kindOf 2 (some .int) g A := X
  have hW : fz_W g A s (SW g a v) s.heap [] := hW
  refine lv_aload_n hx hb dX2_kindOf_0 rfl (lv_at hl 0 rfl) ?_
  refine gf_X2_21 X hW 0 rfl rfl dX2_kindOf_1 ?_
  refine lv_iload_n hx hb dX2_kindOf_4 rfl (lv_at hl 1 rfl) ?_
  refine fz_il X hW 4 (t) rfl rfl (by omega) (by decide) dX2_kindOf_5 ?_
  refine fz_cSi X hW (c_J6_bitCount_0f7a4 l g _ _) lk_X2_94 rfl ⟨Nat.le_of_ble_eq_true rfl, Nat.le_of_ble_eq_true rfl⟩ hl rfl (Nat.le_of_ble_eq_true rfl) dX2_kindOf_6 ⟨Nat.le_refl _, Nat.le_refl _⟩ (fun H locs hW => ?_)
  refine lv_iconst (v := 4) hx hb dX2_kindOf_9 (by decide) ?_
  refine lv_icmp_lt (tgt := 15) hx hb dX2_kindOf_10 (by decide) (fun c10 => ?_) (fun c10 => ?_)
  · skip
    refine lv_aload_n hx hb dX2_kindOf_15 rfl (lv_at hl 0 rfl) ?_
    refine gf_X2_9 X hW 0 rfl rfl dX2_kindOf_16 ?_
    refine lv_iload_n hx hb dX2_kindOf_19 rfl (lv_at hl 1 rfl) ?_
    refine fz_il X hW 1 (t) rfl rfl (by omega) (by decide) dX2_kindOf_20 ?_
    refine lv_bipush (v := 64) hx hb dX2_kindOf_21 (by decide) ?_
    refine lv_icmp_ge (tgt := 30) hx hb dX2_kindOf_23 (by decide) (fun c23 => ?_) (fun c23 => ?_)
    · skip
      refine lv_iconst (v := 1) hx hb dX2_kindOf_30 (by decide) ?_
      exact fz_ri X (fz_cast (rfl) hW) (by unfold kdI; first | exact (if_neg c10).symm | (rw [if_pos c10]; first | exact (if_neg (Int32.not_lt.mpr c23)).symm | exact (if_pos (Int32.not_le.mp c23)).symm)) dX2_kindOf_31
    · skip
      refine lv_iconst (v := 0) hx hb dX2_kindOf_26 (by decide) ?_
      refine lv_goto (tgt := 31) hx hb dX2_kindOf_27 (by decide) ?_
      exact fz_ri X (fz_cast (rfl) hW) (by unfold kdI; first | exact (if_neg c10).symm | (rw [if_pos c10]; first | exact (if_neg (Int32.not_lt.mpr c23)).symm | exact (if_pos (Int32.not_le.mp c23)).symm)) dX2_kindOf_31
  · skip
    refine lv_iconst (v := 2) hx hb dX2_kindOf_13 (by decide) ?_
    exact fz_ri X (fz_cast (rfl) hW) (by unfold kdI; first | exact (if_neg c10).symm | (rw [if_pos c10]; first | exact (if_neg (Int32.not_lt.mpr c23)).symm | exact (if_pos (Int32.not_le.mp c23)).symm)) dX2_kindOf_14
set_option maxHeartbeats 4000000 in
set_option maxRecDepth 100000 in
theorem c_X2_hasFilm (l : Launch) (g : GG) (a : Nat → Nat) (v : SV) : fz_C l g yX2_hasFilm cX2_hasFilm 2 (some .boolean) 2 41 [.ref (a 0)] (SW g a v) (SW g a v) (some (.int (hfF v 0 48))) := by
  refine fz_C.of (by decide) (Nat.le_of_ble_eq_true rfl) ?_
  intro p e s m args below meth c A ls X hW hl
  have hx := X.1
  have hb := X.2.1
  have hl : lv_has ls 2 [(0, .ref (a 0))] := hl
  have X : fz_X p s m meth c RX2 cX2_hasFilm 2 (some .boolean) g A := X
  have hW : fz_W g A s (SW g a v) s.heap [] := hW
  refine lv_iconst (v := 0) hx hb dX2_hasFilm_0 (by decide) ?_
  refine lv_istore_n (lv' := [(1, .int 0), (0, .ref (a 0))]) hx hb dX2_hasFilm_1 rfl hl (by decide) rfl (fun ls hl => ?_)
  have loop2 : ∀ (k : Nat) (t : Nat), t ≤ 48 → 48 < t + k → hfF v 0 48 = hfF v t (48 - t) → ∀ (H : Heap) (locs : List Loc) (ls : Array Slot), fz_W g A s (SW g a v) H locs → lv_has ls 2 [(0, .ref (a 0)), (1, .int (nI t))] → W p l e (fz_R 2 0 0 41) s m args below meth c H locs 0 0 (MQ below (fz_Q g (SW g a v) (some (.int (hfF v 0 48))) A) args s 0 0 A) (F0 m 2 ls []) := by
    intro k
    induction k with
    | zero =>
      intro t ht hk
      omega
    | succ k ih2 =>
      intro t ht hk he H locs ls hW hl
      refine lv_iload_n hx hb dX2_hasFilm_2 rfl (lv_at hl 1 rfl) ?_
      refine lv_bipush (v := 48) hx hb dX2_hasFilm_3 (by decide) ?_
      refine lv_icmp_ge (tgt := 25) hx hb dX2_hasFilm_5 (by decide) (fun c5 => ?_) (fun c5 => ?_)
      · skip
        have h5 : 48 ≤ t := (nI_leI (a := 48) (b := t) (by omega) (by omega)).mp c5
        have e5 : t = 48 := by omega
        have hl := lv_sub hl [0] rfl
        have hl : lv_has ls 2 [(0, .ref (a 0))] := hl
        refine lv_iconst (v := 0) hx hb dX2_hasFilm_25 (by decide) ?_
        exact fz_rz X (fz_cast (rfl) hW) (by rw [he, show 48 - t = 0 by omega]; rfl) (fz_01 (hfF_01 v 48 0)) dX2_hasFilm_26
      · skip
        have h5 : t < 48 := Nat.not_le.mp (fun z => c5 ((nI_leI (a := 48) (b := t) (by omega) (by omega)).mpr z))
        refine lv_aload_n hx hb dX2_hasFilm_8 rfl (lv_at hl 0 rfl) ?_
        refine lv_iload_n hx hb dX2_hasFilm_9 rfl (lv_at hl 1 rfl) ?_
        refine fz_cVi X hW (c_X2_kindOf l g a v t (by omega)) lk_X2_100 (ci := 2) (q0 := 0) rfl rfl rfl rfl ⟨Nat.le_of_ble_eq_true rfl, Nat.le_of_ble_eq_true rfl⟩ hl rfl (Nat.le_of_ble_eq_true rfl) dX2_hasFilm_10 ⟨Nat.le_refl _, Nat.le_refl _⟩ (fun H locs hW => ?_)
        refine lv_iconst (v := 2) hx hb dX2_hasFilm_13 (by decide) ?_
        refine lv_icmp_ne (tgt := 19) hx hb dX2_hasFilm_14 (by decide) (fun c14 => ?_) (fun c14 => ?_)
        · skip
          refine lv_iinc (v := nI (t + 1)) (lv' := [(1, .int (nI (t + 1))), (0, .ref (a 0))]) hx hb dX2_hasFilm_19 hl (k := 1) rfl (nI_1 _) (by decide) rfl (fun ls hl => ?_)
          refine lv_goto (tgt := 2) hx hb dX2_hasFilm_22 (by decide) ?_
          exact ih2 (t + 1) (by omega) (by omega) (by rw [he, show 48 - t = (48 - (t + 1)) + 1 by omega]; exact if_neg c14) _ _ _ (fz_cast (rfl) hW) (lv_sub hl [1, 0] rfl)
        · skip
          refine lv_iconst (v := 1) hx hb dX2_hasFilm_17 (by decide) ?_
          exact fz_rz X (fz_cast (rfl) hW) (by rw [he, show 48 - t = (48 - (t + 1)) + 1 by omega]; exact (if_pos c14).symm) (fz_01 (hfF_01 v 48 0)) dX2_hasFilm_18
  exact loop2 49 0 (by omega) (by omega) rfl _ _ _ (fz_cast (rfl) hW) (lv_sub hl [1, 0] rfl)
set_option maxHeartbeats 4000000 in
set_option maxRecDepth 100000 in
theorem c_X2_unlikeSet (l : Launch) (g : GG) (a : Nat → Nat) (v : SV) : fz_C l g yX2_unlikeSet cX2_unlikeSet 4 (some .long) 0 0 [.ref (a 0)] (SW g a v) (SW g a v) (some (.long (usF v 48))) := by
  refine fz_C.of (by decide) (Nat.le_of_ble_eq_true rfl) ?_
  intro p e s m args below meth c A ls X hW hl
  have hx := X.1
  have hb := X.2.1
  have hl : lv_has ls 4 [(0, .ref (a 0))] := hl
  have X : fz_X p s m meth c RX2 cX2_unlikeSet 4 (some .long) g A := X
  have hW : fz_W g A s (SW g a v) s.heap [] := hW
  refine lv_lconst (v := 0) hx hb dX2_unlikeSet_0 (by decide) ?_
  refine lv_lstore_n (lv' := [(1, .long 0), (0, .ref (a 0))]) hx hb dX2_unlikeSet_1 rfl hl (by decide) rfl (fun ls hl => ?_)
  refine lv_iconst (v := 0) hx hb dX2_unlikeSet_2 (by decide) ?_
  refine lv_istore_n (lv' := [(3, .int 0), (1, .long 0), (0, .ref (a 0))]) hx hb dX2_unlikeSet_3 rfl hl (by decide) rfl (fun ls hl => ?_)
  have loop4 : ∀ (k : Nat) (t : Nat) (z : Int64), t ≤ 48 → 48 < t + k → z = usF v t → ∀ (H : Heap) (locs : List Loc) (ls : Array Slot), fz_W g A s (SW g a v) H locs → lv_has ls 4 [(0, .ref (a 0)), (1, .long z), (3, .int (nI t))] → W p l e (fz_R 0 0 0 0) s m args below meth c H locs 0 0 (MQ below (fz_Q g (SW g a v) (some (.long (usF v 48))) A) args s 0 0 A) (F0 m 4 ls []) := by
    intro k
    induction k with
    | zero =>
      intro t z ht hk
      omega
    | succ k ih4 =>
      intro t z ht hk hz H locs ls hW hl
      refine lv_iload_n hx hb dX2_unlikeSet_4 rfl (lv_at hl 2 rfl) ?_
      refine lv_bipush (v := 48) hx hb dX2_unlikeSet_5 (by decide) ?_
      refine lv_icmp_ge (tgt := 32) hx hb dX2_unlikeSet_7 (by decide) (fun c7 => ?_) (fun c7 => ?_)
      · skip
        have h7 : 48 ≤ t := (nI_leI (a := 48) (b := t) (by omega) (by omega)).mp c7
        have e7 : t = 48 := by omega
        have hl := lv_sub hl [0, 1] rfl
        have hl : lv_has ls 4 [(0, .ref (a 0)), (1, .long z)] := hl
        refine lv_lload_n hx hb dX2_unlikeSet_32 rfl (lv_at hl 1 rfl) ?_
        exact fz_rl X (fz_cast (rfl) hW) (by rw [hz, e7]) dX2_unlikeSet_33
      · skip
        have h7 : t < 48 := Nat.not_le.mp (fun z => c7 ((nI_leI (a := 48) (b := t) (by omega) (by omega)).mpr z))
        refine lv_aload_n hx hb dX2_unlikeSet_10 rfl (lv_at hl 0 rfl) ?_
        refine gf_X2_18 X hW 0 rfl rfl dX2_unlikeSet_11 ?_
        refine lv_iload_n hx hb dX2_unlikeSet_14 rfl (lv_at hl 2 rfl) ?_
        refine fz_il X hW 3 (t) rfl rfl (by omega) (by decide) dX2_unlikeSet_15 ?_
        refine lv_iconst (v := (-1)) hx hb dX2_unlikeSet_16 (by decide) ?_
        refine lv_icmp_eq (tgt := 26) hx hb dX2_unlikeSet_17 (by decide) (fun c17 => ?_) (fun c17 => ?_)
        · skip
          refine lv_iinc (v := nI (t + 1)) (lv' := [(3, .int (nI (t + 1))), (0, .ref (a 0)), (1, .long z)]) hx hb dX2_unlikeSet_26 hl (k := 2) rfl (nI_1 _) (by decide) rfl (fun ls hl => ?_)
          refine lv_goto (tgt := 4) hx hb dX2_unlikeSet_29 (by decide) ?_
          exact ih4 (t + 1) _ (by omega) (by omega) (by rw [hz]; exact (if_pos c17).symm) _ _ _ (fz_cast (rfl) hW) (lv_sub hl [1, 2, 0] rfl)
        · skip
          refine lv_lload_n hx hb dX2_unlikeSet_20 rfl (lv_at hl 1 rfl) ?_
          refine lv_lconst (v := 1) hx hb dX2_unlikeSet_21 (by decide) ?_
          refine lv_iload_n hx hb dX2_unlikeSet_22 rfl (lv_at hl 2 rfl) ?_
          refine lv_lshl hx hb dX2_unlikeSet_23 rfl ?_
          refine lv_lor hx hb dX2_unlikeSet_24 ?_
          refine lv_lstore_n (lv' := [(1, .long (z ||| (1 <<< ((nI t).toInt64 &&& 63)))), (0, .ref (a 0)), (3, .int (nI t))]) hx hb dX2_unlikeSet_25 rfl hl (by decide) rfl (fun ls hl => ?_)
          refine lv_iinc (v := nI (t + 1)) (lv' := [(3, .int (nI (t + 1))), (1, .long (z ||| (1 <<< ((nI t).toInt64 &&& 63)))), (0, .ref (a 0))]) hx hb dX2_unlikeSet_26 hl (k := 2) rfl (nI_1 _) (by decide) rfl (fun ls hl => ?_)
          refine lv_goto (tgt := 4) hx hb dX2_unlikeSet_29 (by decide) ?_
          exact ih4 (t + 1) _ (by omega) (by omega) (by rw [hz]; exact (if_neg c17).symm) _ _ _ (fz_cast (rfl) hW) (lv_sub hl [2, 1, 0] rfl)
  exact loop4 49 0 0 (by omega) (by omega) rfl _ _ _ (fz_cast (rfl) hW) (lv_sub hl [2, 1, 0] rfl)
set_option maxHeartbeats 4000000 in
set_option maxRecDepth 100000 in
theorem c_X2_countUnlike (l : Launch) (g : GG) (a : Nat → Nat) (v : SV) : fz_C l g yX2_countUnlike cX2_countUnlike 1 (some .int) 1 23 [.ref (a 0)] (SW g a v) (SW g a v) (some (.int (bcL (usF v 48)))) := by
  refine fz_C.of (by decide) (Nat.le_of_ble_eq_true rfl) ?_
  intro p e s m args below meth c A ls X hW hl
  have hx := X.1
  have hb := X.2.1
  have hl : lv_has ls 1 [(0, .ref (a 0))] := hl
  have X : fz_X p s m meth c RX2 cX2_countUnlike 1 (some .int) g A := X
  have hW : fz_W g A s (SW g a v) s.heap [] := hW
  refine lv_aload_n hx hb dX2_countUnlike_0 rfl (lv_at hl 0 rfl) ?_
  refine fz_cVl X hW (c_X2_unlikeSet l g a v) lk_X2_103 (ci := 2) (q0 := 0) rfl rfl rfl rfl ⟨Nat.le_of_ble_eq_true rfl, Nat.le_of_ble_eq_true rfl⟩ hl rfl (Nat.le_of_ble_eq_true rfl) dX2_countUnlike_1 ⟨Nat.le_refl _, Nat.le_refl _⟩ (fun H locs hW => ?_)
  refine fz_cSi X hW (c_J13_bitCount_95d88 l g _ _) lk_X2_107 rfl ⟨Nat.le_of_ble_eq_true rfl, Nat.le_of_ble_eq_true rfl⟩ hl rfl (Nat.le_of_ble_eq_true rfl) dX2_countUnlike_4 ⟨Nat.le_refl _, Nat.le_refl _⟩ (fun H locs hW => ?_)
  exact fz_ri X (fz_cast (rfl) hW) (rfl) dX2_countUnlike_7
set_option maxHeartbeats 4000000 in
set_option maxRecDepth 100000 in
theorem c_X2_countRough (l : Launch) (g : GG) (a : Nat → Nat) (v : SV) : fz_C l g yX2_countRough cX2_countRough 3 (some .int) 0 0 [.ref (a 0)] (SW g a v) (SW g a v) (some (.int (crF v 48))) := by
  refine fz_C.of (by decide) (Nat.le_of_ble_eq_true rfl) ?_
  intro p e s m args below meth c A ls X hW hl
  have hx := X.1
  have hb := X.2.1
  have hl : lv_has ls 3 [(0, .ref (a 0))] := hl
  have X : fz_X p s m meth c RX2 cX2_countRough 3 (some .int) g A := X
  have hW : fz_W g A s (SW g a v) s.heap [] := hW
  refine lv_iconst (v := 0) hx hb dX2_countRough_0 (by decide) ?_
  refine lv_istore_n (lv' := [(1, .int 0), (0, .ref (a 0))]) hx hb dX2_countRough_1 rfl hl (by decide) rfl (fun ls hl => ?_)
  refine lv_iconst (v := 0) hx hb dX2_countRough_2 (by decide) ?_
  refine lv_istore_n (lv' := [(2, .int 0), (1, .int 0), (0, .ref (a 0))]) hx hb dX2_countRough_3 rfl hl (by decide) rfl (fun ls hl => ?_)
  have loop4 : ∀ (k : Nat) (t : Nat) (z : Int32), t ≤ 48 → 48 < t + k → z = crF v t → ∀ (H : Heap) (locs : List Loc) (ls : Array Slot), fz_W g A s (SW g a v) H locs → lv_has ls 3 [(0, .ref (a 0)), (1, .int z), (2, .int (nI t))] → W p l e (fz_R 0 0 0 0) s m args below meth c H locs 0 0 (MQ below (fz_Q g (SW g a v) (some (.int (crF v 48))) A) args s 0 0 A) (F0 m 4 ls []) := by
    intro k
    induction k with
    | zero =>
      intro t z ht hk
      omega
    | succ k ih4 =>
      intro t z ht hk hz H locs ls hW hl
      refine lv_iload_n hx hb dX2_countRough_4 rfl (lv_at hl 2 rfl) ?_
      refine lv_bipush (v := 48) hx hb dX2_countRough_5 (by decide) ?_
      refine lv_icmp_ge (tgt := 31) hx hb dX2_countRough_7 (by decide) (fun c7 => ?_) (fun c7 => ?_)
      · skip
        have h7 : 48 ≤ t := (nI_leI (a := 48) (b := t) (by omega) (by omega)).mp c7
        have e7 : t = 48 := by omega
        have hl := lv_sub hl [0, 1] rfl
        have hl : lv_has ls 3 [(0, .ref (a 0)), (1, .int z)] := hl
        refine lv_iload_n hx hb dX2_countRough_31 rfl (lv_at hl 1 rfl) ?_
        exact fz_ri X (fz_cast (rfl) hW) (by rw [hz, e7]) dX2_countRough_32
      · skip
        have h7 : t < 48 := Nat.not_le.mp (fun z => c7 ((nI_leI (a := 48) (b := t) (by omega) (by omega)).mpr z))
        refine lv_aload_n hx hb dX2_countRough_10 rfl (lv_at hl 0 rfl) ?_
        refine gf_X2_15 X hW 0 rfl rfl dX2_countRough_11 ?_
        refine lv_iload_n hx hb dX2_countRough_14 rfl (lv_at hl 2 rfl) ?_
        refine fz_il X hW 2 (t) rfl rfl (by omega) (by decide) dX2_countRough_15 ?_
        refine lv_sipush (v := 1000) hx hb dX2_countRough_16 (by decide) ?_
        refine lv_icmp_lt (tgt := 25) hx hb dX2_countRough_19 (by decide) (fun c19 => ?_) (fun c19 => ?_)
        · skip
          refine lv_iinc (v := nI (t + 1)) (lv' := [(2, .int (nI (t + 1))), (0, .ref (a 0)), (1, .int z)]) hx hb dX2_countRough_25 hl (k := 2) rfl (nI_1 _) (by decide) rfl (fun ls hl => ?_)
          refine lv_goto (tgt := 4) hx hb dX2_countRough_28 (by decide) ?_
          exact ih4 (t + 1) _ (by omega) (by omega) (by rw [hz]; exact (if_pos c19).symm) _ _ _ (fz_cast (rfl) hW) (lv_sub hl [1, 2, 0] rfl)
        · skip
          refine lv_iinc (v := z + 1) (lv' := [(1, .int (z + 1)), (0, .ref (a 0)), (2, .int (nI t))]) hx hb dX2_countRough_22 hl (k := 1) rfl rfl (by decide) rfl (fun ls hl => ?_)
          refine lv_iinc (v := nI (t + 1)) (lv' := [(2, .int (nI (t + 1))), (1, .int (z + 1)), (0, .ref (a 0))]) hx hb dX2_countRough_25 hl (k := 2) rfl (nI_1 _) (by decide) rfl (fun ls hl => ?_)
          refine lv_goto (tgt := 4) hx hb dX2_countRough_28 (by decide) ?_
          exact ih4 (t + 1) _ (by omega) (by omega) (by rw [hz]; exact (if_neg c19).symm) _ _ _ (fz_cast (rfl) hW) (lv_sub hl [2, 1, 0] rfl)
  exact loop4 49 0 0 (by omega) (by omega) rfl _ _ _ (fz_cast (rfl) hW) (lv_sub hl [2, 1, 0] rfl)
set_option maxHeartbeats 4000000 in
set_option maxRecDepth 100000 in
theorem c_X2_isAllSent (l : Launch) (g : GG) (a : Nat → Nat) (v : SV) (hwm : v.wm ≤ 4) : fz_C l g yX2_isAllSent cX2_isAllSent 1 (some .boolean) 1 23 [.ref (a 0)] (SW g a v) (SW g a v) (some (.int (alI v))) := by
  refine fz_C.of (by decide) (Nat.le_of_ble_eq_true rfl) ?_
  intro p e s m args below meth c A ls X hW hl
  have hx := X.1
  have hb := X.2.1
  have hl : lv_has ls 1 [(0, .ref (a 0))] := hl
  have X : fz_X p s m meth c RX2 cX2_isAllSent 1 (some .boolean) g A := X
  have hW : fz_W g A s (SW g a v) s.heap [] := hW
  refine lv_aload_n hx hb dX2_isAllSent_0 rfl (lv_at hl 0 rfl) ?_
  refine gf_X2_39 X hW 0 rfl rfl dX2_isAllSent_1 ?_
  refine lv_if_ne (tgt := 20) hx hb dX2_isAllSent_4 (by decide) (fun c4 => ?_) (fun c4 => ?_)
  · skip
    have h4 : ¬ v.wm = 0 := fun z => c4 (by rw [z]; rfl)
    refine lv_iconst (v := 0) hx hb dX2_isAllSent_20 (by decide) ?_
    exact fz_rz X (fz_cast (rfl) hW) (by unfold alI; first | exact (if_neg h4).symm | (rw [if_pos h4]; first | exact (if_neg h13).symm | exact (if_pos h13).symm)) (fz_01 (alI_01 v)) dX2_isAllSent_21
  · skip
    have h4 : v.wm = 0 := (nI_eq (a := v.wm) (b := 0) (by omega) (by omega)).mp c4
    refine lv_aload_n hx hb dX2_isAllSent_7 rfl (lv_at hl 0 rfl) ?_
    refine fz_cVl X hW (c_X2_unlikeSet l g a v) lk_X2_103 (ci := 2) (q0 := 0) rfl rfl rfl rfl ⟨Nat.le_of_ble_eq_true rfl, Nat.le_of_ble_eq_true rfl⟩ hl rfl (Nat.le_of_ble_eq_true rfl) dX2_isAllSent_8 ⟨Nat.le_refl _, Nat.le_refl _⟩ (fun H locs hW => ?_)
    refine lv_lconst (v := 0) hx hb dX2_isAllSent_11 (by decide) ?_
    refine W.lcmp hx hb dX2_isAllSent_12 ?_
    refine lv_if_ne (tgt := 20) hx hb dX2_isAllSent_13 (by decide) (fun c13 => ?_) (fun c13 => ?_)
    · skip
      have h13 : ¬ usF v 48 = 0 := fun z => c13 ((lg_cmp_eq _ _).mpr z)
      refine lv_iconst (v := 0) hx hb dX2_isAllSent_20 (by decide) ?_
      exact fz_rz X (fz_cast (rfl) hW) (by unfold alI; first | exact (if_neg h4).symm | (rw [if_pos h4]; first | exact (if_neg h13).symm | exact (if_pos h13).symm)) (fz_01 (alI_01 v)) dX2_isAllSent_21
    · skip
      have h13 : usF v 48 = 0 := (lg_cmp_eq _ _).mp c13
      refine lv_iconst (v := 1) hx hb dX2_isAllSent_16 (by decide) ?_
      refine lv_goto (tgt := 21) hx hb dX2_isAllSent_17 (by decide) ?_
      exact fz_rz X (fz_cast (rfl) hW) (by unfold alI; first | exact (if_neg h4).symm | (rw [if_pos h4]; first | exact (if_neg h13).symm | exact (if_pos h13).symm)) (fz_01 (alI_01 v)) dX2_isAllSent_21
set_option maxHeartbeats 4000000 in
set_option maxRecDepth 100000 in
theorem c_X2_isLookedAt (l : Launch) (g : GG) (a : Nat → Nat) (v : SV) (t : Nat) : fz_C l g yX2_isLookedAt cX2_isLookedAt 4 (some .boolean) 1 32 [.ref (a 0), .int (nI t)] (SW g a v) (SW g a v) (some (.int (lkI v.la t))) := by
  refine fz_C.of (by decide) (Nat.le_of_ble_eq_true rfl) ?_
  intro p e s m args below meth c A ls X hW hl
  have hx := X.1
  have hb := X.2.1
  have hl : lv_has ls 4 [(0, .ref (a 0)), (1, .int (nI t))] := hl
  have X : fz_X p s m meth c RX2 cX2_isLookedAt 4 (some .boolean) g A := X
  have hW : fz_W g A s (SW g a v) s.heap [] := hW
  refine lv_iload_n hx hb dX2_isLookedAt_0 rfl (lv_at hl 1 rfl) ?_
  refine lv_bipush (v := 8) hx hb dX2_isLookedAt_1 (by decide) ?_
  refine lv_irem hx hb dX2_isLookedAt_3 (by decide) ?_
  refine lv_aload_n hx hb dX2_isLookedAt_4 rfl (lv_at hl 0 rfl) ?_
  refine gf_X2_59 X hW 0 rfl rfl dX2_isLookedAt_5 ?_
  refine lv_bipush (v := 8) hx hb dX2_isLookedAt_8 (by decide) ?_
  refine lv_irem hx hb dX2_isLookedAt_10 (by decide) ?_
  refine lv_isub hx hb dX2_isLookedAt_11 ?_
  refine fz_abs X hl (Nat.le_of_ble_eq_true rfl) (Nat.le_of_ble_eq_true rfl) dX2_isLookedAt_12 ⟨Nat.zero_le _, Nat.zero_le _⟩ ?_
  refine lv_istore_n (lv' := [(2, .int (absI (((nI t) - (nI t) / 8 * 8) - ((nI v.la) - (nI v.la) / 8 * 8)))), (0, .ref (a 0)), (1, .int (nI t))]) hx hb dX2_isLookedAt_15 rfl hl (by decide) rfl (fun ls hl => ?_)
  refine lv_iload_n hx hb dX2_isLookedAt_16 rfl (lv_at hl 2 rfl) ?_
  refine lv_bipush (v := 8) hx hb dX2_isLookedAt_17 (by decide) ?_
  refine lv_idiv hx hb dX2_isLookedAt_19 (by decide) ?_
  refine lv_aload_n hx hb dX2_isLookedAt_20 rfl (lv_at hl 1 rfl) ?_
  refine gf_X2_59 X hW 0 rfl rfl dX2_isLookedAt_21 ?_
  refine lv_bipush (v := 8) hx hb dX2_isLookedAt_24 (by decide) ?_
  refine lv_idiv hx hb dX2_isLookedAt_26 (by decide) ?_
  refine lv_isub hx hb dX2_isLookedAt_27 ?_
  refine fz_abs X hl (Nat.le_of_ble_eq_true rfl) (Nat.le_of_ble_eq_true rfl) dX2_isLookedAt_28 ⟨Nat.zero_le _, Nat.zero_le _⟩ ?_
  refine lv_istore_n (lv' := [(3, .int (absI (((nI t) / 8) - ((nI v.la) / 8)))), (2, .int (absI (((nI t) - (nI t) / 8 * 8) - ((nI v.la) - (nI v.la) / 8 * 8)))), (0, .ref (a 0)), (1, .int (nI t))]) hx hb dX2_isLookedAt_31 rfl hl (by decide) rfl (fun ls hl => ?_)
  refine lv_iload_n hx hb dX2_isLookedAt_32 rfl (lv_at hl 1 rfl) ?_
  refine lv_iconst (v := 1) hx hb dX2_isLookedAt_33 (by decide) ?_
  refine lv_icmp_gt (tgt := 46) hx hb dX2_isLookedAt_34 (by decide) (fun c34 => ?_) (fun c34 => ?_)
  · skip
    refine lv_iconst (v := 0) hx hb dX2_isLookedAt_46 (by decide) ?_
    exact fz_rz X (fz_cast (rfl) hW) (by unfold lkI; first | exact (if_pos c34).symm | (rw [if_neg c34]; first | exact (if_pos c39).symm | exact (if_neg c39).symm)) (fz_01 (lkI_01 _ _)) dX2_isLookedAt_47
  · skip
    refine lv_iload_n hx hb dX2_isLookedAt_37 rfl (lv_at hl 0 rfl) ?_
    refine lv_iconst (v := 1) hx hb dX2_isLookedAt_38 (by decide) ?_
    refine lv_icmp_gt (tgt := 46) hx hb dX2_isLookedAt_39 (by decide) (fun c39 => ?_) (fun c39 => ?_)
    · skip
      refine lv_iconst (v := 0) hx hb dX2_isLookedAt_46 (by decide) ?_
      exact fz_rz X (fz_cast (rfl) hW) (by unfold lkI; first | exact (if_pos c34).symm | (rw [if_neg c34]; first | exact (if_pos c39).symm | exact (if_neg c39).symm)) (fz_01 (lkI_01 _ _)) dX2_isLookedAt_47
    · skip
      refine lv_iconst (v := 1) hx hb dX2_isLookedAt_42 (by decide) ?_
      refine lv_goto (tgt := 47) hx hb dX2_isLookedAt_43 (by decide) ?_
      exact fz_rz X (fz_cast (rfl) hW) (by unfold lkI; first | exact (if_pos c34).symm | (rw [if_neg c34]; first | exact (if_pos c39).symm | exact (if_neg c39).symm)) (fz_01 (lkI_01 _ _)) dX2_isLookedAt_47
set_option maxHeartbeats 4000000 in
set_option maxRecDepth 100000 in
theorem c_X2_worthOf (l : Launch) (g : GG) (a : Nat → Nat) (v : SV) (t : Nat) (ht : t < 48) : fz_C l g yX2_worthOf cX2_worthOf 3 (some .int) 2 55 [.ref (a 0), .int (nI t)] (SW g a v) (SW g a v) (some (.int (woI v t))) := by
  refine fz_C.of (by decide) (Nat.le_of_ble_eq_true rfl) ?_
  intro p e s m args below meth c A ls X hW hl
  have hx := X.1
  have hb := X.2.1
  have hl : lv_has ls 3 [(0, .ref (a 0)), (1, .int (nI t))] := hl
  have X : fz_X p s m meth c RX2 cX2_worthOf 3 (some .int) g A := X
  have hW : fz_W g A s (SW g a v) s.heap [] := hW
  refine lv_aload_n hx hb dX2_worthOf_0 rfl (lv_at hl 0 rfl) ?_
  refine gf_X2_56 X hW 0 rfl rfl dX2_worthOf_1 ?_
  refine lv_aload_n hx hb dX2_worthOf_4 rfl (lv_at hl 0 rfl) ?_
  refine gf_X2_18 X hW 0 rfl rfl dX2_worthOf_5 ?_
  refine lv_iload_n hx hb dX2_worthOf_8 rfl (lv_at hl 1 rfl) ?_
  refine fz_il X hW 3 (t) rfl rfl (by omega) (by decide) dX2_worthOf_9 ?_
  refine lv_isub hx hb dX2_worthOf_10 ?_
  refine lv_istore_n (lv' := [(2, .int _), (0, .ref (a 0)), (1, .int (nI t))]) hx hb dX2_worthOf_11 rfl hl (by decide) rfl (fun ls hl => ?_)
  refine lv_aload_n hx hb dX2_worthOf_12 rfl (lv_at hl 1 rfl) ?_
  refine lv_iload_n hx hb dX2_worthOf_13 rfl (lv_at hl 2 rfl) ?_
  refine fz_cVi X hW (c_X2_isLookedAt l g a v t) lk_X2_139 (ci := 2) (q0 := 0) rfl rfl rfl rfl ⟨Nat.le_of_ble_eq_true rfl, Nat.le_of_ble_eq_true rfl⟩ hl rfl (Nat.le_of_ble_eq_true rfl) dX2_worthOf_14 ⟨Nat.le_refl _, Nat.le_refl _⟩ (fun H locs hW => ?_)
  refine lv_if_eq (tgt := 26) hx hb dX2_worthOf_17 (by decide) (fun c17 => ?_) (fun c17 => ?_)
  · skip
    refine lv_iload_n hx hb dX2_worthOf_26 rfl (lv_at hl 0 rfl) ?_
    exact fz_ri X (fz_cast (rfl) hW) (by unfold woI; first | exact (if_pos c17).symm | exact (if_neg c17).symm) dX2_worthOf_27
  · skip
    refine lv_iload_n hx hb dX2_worthOf_20 rfl (lv_at hl 0 rfl) ?_
    refine lv_iconst (v := 5) hx hb dX2_worthOf_21 (by decide) ?_
    refine lv_iadd hx hb dX2_worthOf_22 ?_
    refine lv_goto (tgt := 27) hx hb dX2_worthOf_23 (by decide) ?_
    exact fz_ri X (fz_cast (rfl) hW) (by unfold woI; first | exact (if_pos c17).symm | exact (if_neg c17).symm) dX2_worthOf_27
