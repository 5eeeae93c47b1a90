set_option maxHeartbeats 4000000 in
set_option maxRecDepth 100000 in
theorem c_X3_tileAt (l : Launch) (g : GG) (x y : Int32) (ws : va_W) : fz_C l g yX3_tileAt cX3_tileAt 2 (some .int) 0 0 [.int x, .int y] (ws) (ws) (some (.int (8 * y + x))) := by
  refine fz_C.of (by decide) (Nat.le_of_ble_eq_true rfl) ?_
  intro p e s m args below meth c A ls X hW hl
  have hx := X.1
  have hb := X.2.1
  have hl : lv_has ls 2 [(0, .int x), (1, .int y)] := hl
  have X : fz_X p s m meth c RX3 cX3_tileAt 2 (some .int) g A := X
  have hW : fz_W g A s (ws) s.heap [] := hW
  refine lv_bipush (v := 8) hx hb dX3_tileAt_0 (by decide) ?_
  refine lv_iload_n hx hb dX3_tileAt_2 rfl (lv_at hl 1 rfl) ?_
  refine lv_imul hx hb dX3_tileAt_3 ?_
  refine lv_iload_n hx hb dX3_tileAt_4 rfl (lv_at hl 0 rfl) ?_
  refine lv_iadd hx hb dX3_tileAt_5 ?_
  exact fz_ri X (fz_cast (rfl) hW) (rfl) dX3_tileAt_6
set_option maxHeartbeats 4000000 in
set_option maxRecDepth 100000 in
theorem c_X3_wholeCost (l : Launch) (g : GG) (x : Int32) (ws : va_W) : fz_C l g yX3_wholeCost cX3_wholeCost 1 (some .int) 0 0 [.int x] (ws) (ws) (some (.int (wcI x))) := by
  refine fz_C.of (by decide) (Nat.le_of_ble_eq_true rfl) ?_
  intro p e s m args below meth c A ls X hW hl
  have hx := X.1
  have hb := X.2.1
  have hl : lv_has ls 1 [(0, .int x)] := hl
  have X : fz_X p s m meth c RX3 cX3_wholeCost 1 (some .int) g A := X
  have hW : fz_W g A s (ws) s.heap [] := hW
  refine lv_iload_n hx hb dX3_wholeCost_0 rfl (lv_at hl 0 rfl) ?_
  refine lv_bipush (v := 64) hx hb dX3_wholeCost_1 (by decide) ?_
  refine lv_icmp_ge (tgt := 10) hx hb dX3_wholeCost_3 (by decide) (fun c3 => ?_) (fun c3 => ?_)
  · skip
    refine lv_bipush (v := 6) hx hb dX3_wholeCost_10 (by decide) ?_
    exact fz_ri X (fz_cast (rfl) hW) (by first | exact (if_neg (Int32.not_lt.mpr c3)).symm | exact (if_pos (Int32.not_le.mp c3)).symm) dX3_wholeCost_12
  · skip
    refine lv_iconst (v := 2) hx hb dX3_wholeCost_6 (by decide) ?_
    refine lv_goto (tgt := 12) hx hb dX3_wholeCost_7 (by decide) ?_
    exact fz_ri X (fz_cast (rfl) hW) (by first | exact (if_neg (Int32.not_lt.mpr c3)).symm | exact (if_pos (Int32.not_le.mp c3)).symm) dX3_wholeCost_12
set_option maxHeartbeats 4000000 in
set_option maxRecDepth 100000 in
theorem c_X1_placeOf (l : Launch) (g : GG) (o q : Nat) (kp : Nat → Int32) (kc : Nat) (x : Int32) (hkc : kc ≤ 8) : fz_C l g yX1_placeOf cX1_placeOf 3 (some .int) 0 0 [.ref o, .int x] (KW g o q kp kc) (KW g o q kp kc) (some (.int (plcF kp x 0 kc))) := by
  refine fz_C.of (by decide) (Nat.le_of_ble_eq_true rfl) ?_
  intro p e s m args below meth c A ls X hW hl
  have hx := X.1
  have hb := X.2.1
  have hl : lv_has ls 3 [(0, .ref o), (1, .int x)] := hl
  have X : fz_X p s m meth c RX1 cX1_placeOf 3 (some .int) g A := X
  have hW : fz_W g A s (KW g o q kp kc) s.heap [] := hW
  refine lv_iconst (v := 0) hx hb dX1_placeOf_0 (by decide) ?_
  refine lv_istore_n (lv' := [(2, .int 0), (0, .ref o), (1, .int x)]) hx hb dX1_placeOf_1 rfl hl (by decide) rfl (fun ls hl => ?_)
  have loop2 : ∀ (k : Nat) (i : Nat), i ≤ kc → kc < i + k → plcF kp x 0 kc = plcF kp x i (kc - i) → ∀ (H : Heap) (locs : List Loc) (ls : Array Slot), fz_W g A s (KW g o q kp kc) H locs → lv_has ls 3 [(0, .ref o), (1, .int x), (2, .int (nI i))] → W p l e (fz_R 0 0 0 0) s m args below meth c H locs 0 0 (MQ below (fz_Q g (KW g o q kp kc) (some (.int (plcF kp x 0 kc))) A) args s 0 0 A) (F0 m 2 ls []) := by
    intro k
    induction k with
    | zero =>
      intro i hi hk
      omega
    | succ k ih2 =>
      intro i hi hk he H locs ls hW hl
      refine lv_iload_n hx hb dX1_placeOf_2 rfl (lv_at hl 2 rfl) ?_
      refine lv_aload_n hx hb dX1_placeOf_3 rfl (lv_at hl 0 rfl) ?_
      refine gf_X1_15 X hW 0 rfl rfl dX1_placeOf_4 ?_
      refine lv_icmp_ge (tgt := 28) hx hb dX1_placeOf_7 (by decide) (fun c7 => ?_) (fun c7 => ?_)
      · skip
        have h7 : kc ≤ i := (nI_leI (a := kc) (b := i) (by omega) (by omega)).mp c7
        refine lv_iconst (v := (-1)) hx hb dX1_placeOf_28 (by decide) ?_
        exact fz_ri X (fz_cast (rfl) hW) (by rw [he, show kc - i = 0 by omega]; rfl) dX1_placeOf_29
      · skip
        have h7 : i < kc := Nat.not_le.mp (fun z => c7 ((nI_leI (a := kc) (b := i) (by omega) (by omega)).mpr z))
        refine lv_aload_n hx hb dX1_placeOf_10 rfl (lv_at hl 0 rfl) ?_
        refine gf_X1_9 X hW 0 rfl rfl dX1_placeOf_11 ?_
        refine lv_iload_n hx hb dX1_placeOf_14 rfl (lv_at hl 2 rfl) ?_
        refine fz_il X hW 1 (i) rfl rfl (by omega) (by decide) dX1_placeOf_15 ?_
        refine lv_iload_n hx hb dX1_placeOf_16 rfl (lv_at hl 1 rfl) ?_
        refine lv_icmp_ne (tgt := 22) hx hb dX1_placeOf_17 (by decide) (fun c17 => ?_) (fun c17 => ?_)
        · skip
          refine lv_iinc (v := nI (i + 1)) (lv' := [(2, .int (nI (i + 1))), (0, .ref o), (1, .int x)]) hx hb dX1_placeOf_22 hl (k := 2) rfl (nI_1 _) (by decide) rfl (fun ls hl => ?_)
          refine lv_goto (tgt := 2) hx hb dX1_placeOf_25 (by decide) ?_
          exact ih2 (i + 1) (by omega) (by omega) (by rw [he, show kc - i = (kc - (i + 1)) + 1 by omega]; exact if_neg c17) _ _ _ (fz_cast (rfl) hW) (lv_sub hl [1, 2, 0] rfl)
        · skip
          refine lv_iload_n hx hb dX1_placeOf_20 rfl (lv_at hl 2 rfl) ?_
          exact fz_ri X (fz_cast (rfl) hW) (by rw [he, show kc - i = (kc - (i + 1)) + 1 by omega]; exact (if_pos c17).symm) dX1_placeOf_21
  exact loop2 (kc + 1) 0 (by omega) (by omega) rfl _ _ _ (fz_cast (rfl) hW) (lv_sub hl [1, 2, 0] rfl)
set_option maxHeartbeats 4000000 in
set_option maxRecDepth 100000 in
theorem c_X1_holds (l : Launch) (g : GG) (o q : Nat) (kp : Nat → Int32) (kc : Nat) (x : Int32) (hkc : kc ≤ 8) : fz_C l g yX1_holds cX1_holds 2 (some .boolean) 1 22 [.ref o, .int x] (KW g o q kp kc) (KW g o q kp kc) (some (.int (if plcF kp x 0 kc = -1 then 0 else 1))) := by
  refine fz_C.of (by decide) (Nat.le_of_ble_eq_true rfl) ?_
  intro p e s m args below meth c A ls X hW hl
  have hx := X.1
  have hb := X.2.1
  have hl : lv_has ls 2 [(0, .ref o), (1, .int x)] := hl
  have X : fz_X p s m meth c RX1 cX1_holds 2 (some .boolean) g A := X
  have hW : fz_W g A s (KW g o q kp kc) s.heap [] := hW
  refine lv_aload_n hx hb dX1_holds_0 rfl (lv_at hl 0 rfl) ?_
  refine lv_iload_n hx hb dX1_holds_1 rfl (lv_at hl 1 rfl) ?_
  refine fz_cVi X hW (c_X1_placeOf l g o q kp kc x hkc) lk_X1_25 (ci := 1) (q0 := 0) rfl rfl rfl rfl ⟨Nat.le_of_ble_eq_true rfl, Nat.le_of_ble_eq_true rfl⟩ hl rfl (Nat.le_of_ble_eq_true rfl) dX1_holds_2 ⟨Nat.le_refl _, Nat.le_refl _⟩ (fun H locs hW => ?_)
  refine lv_iconst (v := (-1)) hx hb dX1_holds_5 (by decide) ?_
  refine lv_icmp_eq (tgt := 13) hx hb dX1_holds_6 (by decide) (fun c6 => ?_) (fun c6 => ?_)
  · skip
    refine lv_iconst (v := 0) hx hb dX1_holds_13 (by decide) ?_
    exact fz_rz X (fz_cast (rfl) hW) (by first | exact (if_neg c6).symm | exact (if_pos c6).symm) (by by_cases h : plcF kp x 0 kc = -1 <;> simp only [h, if_true, if_false] <;> rfl) dX1_holds_14
  · skip
    refine lv_iconst (v := 1) hx hb dX1_holds_9 (by decide) ?_
    refine lv_goto (tgt := 14) hx hb dX1_holds_10 (by decide) ?_
    exact fz_rz X (fz_cast (rfl) hW) (by first | exact (if_neg c6).symm | exact (if_pos c6).symm) (by by_cases h : plcF kp x 0 kc = -1 <;> simp only [h, if_true, if_false] <;> rfl) dX1_holds_14
set_option maxHeartbeats 4000000 in
set_option maxRecDepth 100000 in
theorem c_X1_meet (l : Launch) (g : GG) (o q : Nat) (kp : Nat → Int32) (kc : Nat) (x : Int32) (hkc : kc ≤ 8) : fz_C l g yX1_meet cX1_meet 4 none 1 22 [.ref o, .int x] (KW g o q kp kc) (KW g o q (mtP kp kc x) (mtC kp kc x)) none := by
  refine fz_C.of (by decide) (Nat.le_of_ble_eq_true rfl) ?_
  intro p e s m args below meth c A ls X hW hl
  have hx := X.1
  have hb := X.2.1
  have hl : lv_has ls 4 [(0, .ref o), (1, .int x)] := hl
  have X : fz_X p s m meth c RX1 cX1_meet 4 none g A := X
  have hW : fz_W g A s (KW g o q kp kc) s.heap [] := hW
  have hg7 : mtG kp kc x < 8 := by
    unfold mtG
    split
    · split <;> omega
    · rename_i hne
      rcases plcF_in kp x kc 0 with h | ⟨j, h1, h2, h3⟩
      · exact absurd h hne
      · rw [h3, nI_clamp (by omega)]
        omega
  refine lv_aload_n hx hb dX1_meet_0 rfl (lv_at hl 0 rfl) ?_
  refine lv_iload_n hx hb dX1_meet_1 rfl (lv_at hl 1 rfl) ?_
  refine fz_cVi X hW (c_X1_placeOf l g o q kp kc x hkc) lk_X1_25 (ci := 1) (q0 := 0) rfl rfl rfl rfl ⟨Nat.le_of_ble_eq_true rfl, Nat.le_of_ble_eq_true rfl⟩ hl rfl (Nat.le_of_ble_eq_true rfl) dX1_meet_2 ⟨Nat.le_refl _, Nat.le_refl _⟩ (fun H locs hW => ?_)
  refine lv_istore_n (lv' := [(2, .int (plcF kp x 0 kc)), (0, .ref o), (1, .int x)]) hx hb dX1_meet_5 rfl hl (by decide) rfl (fun ls hl => ?_)
  have join37 : ∀ (z : Int32), z = nI (mtG kp kc x) → ∀ (H : Heap) (locs : List Loc) (ls : Array Slot), fz_W g A s (KW g o q kp (mtC kp kc x)) H locs → lv_has ls 4 [(0, .ref o), (1, .int x), (2, .int z)] → W p l e (fz_R 1 0 0 22) s m args below meth c H locs 0 0 (MQ below (fz_Q g (KW g o q (mtP kp kc x) (mtC kp kc x)) none A) args s 0 0 A) (F0 m 37 ls []) := by
    intro z hz H locs ls hW hl
    subst hz
    refine lv_iload_n hx hb dX1_meet_37 rfl (lv_at hl 2 rfl) ?_
    refine lv_istore_n (lv' := [(3, .int (nI (mtG kp kc x))), (0, .ref o), (1, .int x), (2, .int (nI (mtG kp kc x)))]) hx hb dX1_meet_38 rfl hl (by decide) rfl (fun ls hl => ?_)
    have loop39 : ∀ (k : Nat) (i : Nat), i ≤ mtG kp kc x → i < k → ∀ (H : Heap) (locs : List Loc) (ls : Array Slot), fz_W g A s (KW g o q (shF kp (mtG kp kc x) i) (mtC kp kc x)) H locs → lv_has ls 4 [(0, .ref o), (1, .int x), (3, .int (nI i))] → W p l e (fz_R 1 0 0 22) s m args below meth c H locs 0 0 (MQ below (fz_Q g (KW g o q (mtP kp kc x) (mtC kp kc x)) none A) args s 0 0 A) (F0 m 39 ls []) := by
      intro k
      induction k with
      | zero =>
        intro i hi hk
        omega
      | succ k ih39 =>
        intro i hi hk H locs ls hW hl
        refine lv_iload_n hx hb dX1_meet_39 rfl (lv_at hl 2 rfl) ?_
        refine lv_if_le (tgt := 63) hx hb dX1_meet_40 (by decide) (fun c40 => ?_) (fun c40 => ?_)
        · skip
          have h40 : i = 0 := by
            have := (nI_leI (a := i) (b := 0) (by omega) (by omega)).mp c40
            omega
          subst h40
          refine lv_aload_n hx hb dX1_meet_63 rfl (lv_at hl 0 rfl) ?_
          refine gf_X1_9 X hW 0 rfl rfl dX1_meet_64 ?_
          refine lv_iconst (v := 0) hx hb dX1_meet_67 (by decide) ?_
          refine lv_iload_n hx hb dX1_meet_68 rfl (lv_at hl 1 rfl) ?_
          refine fz_is X hW 1 (0) rfl rfl (by omega) (by decide) dX1_meet_69 (fun H locs hW => ?_)
          exact fz_rv X (fz_cast (rfl) hW) dX1_meet_70
        · skip
          obtain ⟨j, rfl⟩ : ∃ j, i = j + 1 := ⟨i - 1, by
            have h40 : ¬ i ≤ 0 := fun z => c40 ((nI_leI (a := i) (b := 0) (by omega) (by omega)).mpr z)
            omega⟩
          refine lv_aload_n hx hb dX1_meet_43 rfl (lv_at hl 0 rfl) ?_
          refine gf_X1_9 X hW 0 rfl rfl dX1_meet_44 ?_
          refine lv_iload_n hx hb dX1_meet_47 rfl (lv_at hl 2 rfl) ?_
          refine lv_aload_n hx hb dX1_meet_48 rfl (lv_at hl 0 rfl) ?_
          refine gf_X1_9 X hW 0 rfl rfl dX1_meet_49 ?_
          refine lv_iload_n hx hb dX1_meet_52 rfl (lv_at hl 2 rfl) ?_
          refine lv_iconst (v := 1) hx hb dX1_meet_53 (by decide) ?_
          refine lv_isub hx hb dX1_meet_54 ?_
          refine fz_il X hW 1 (j) rfl (by exact pk_sub (a := j + 1) (b := 1) (by omega)) (by omega) (by decide) dX1_meet_55 ?_
          refine fz_is X hW 1 (j + 1) rfl rfl (by omega) (by decide) dX1_meet_56 (fun H locs hW => ?_)
          refine lv_iinc (v := nI j) (lv' := [(3, .int (nI j)), (0, .ref o), (1, .int x)]) hx hb dX1_meet_57 hl (k := 2) rfl (pk_m1 j) (by decide) rfl (fun ls hl => ?_)
          refine lv_goto (tgt := 39) hx hb dX1_meet_60 (by decide) ?_
          exact ih39 j (by omega) (by omega) _ _ _ (fz_cast (congrArg (fun z => KW g o q z (mtC kp kc x)) (shF_s kp (mtG kp kc x) j (by omega))) hW) (lv_sub hl [1, 2, 0] rfl)
    exact loop39 (mtG kp kc x + 1) (mtG kp kc x) (Nat.le_refl _) (Nat.lt_succ_self _) _ _ _ (fz_cast (congrArg (fun z => KW g o q z (mtC kp kc x)) (shF_g kp _).symm) hW) (lv_sub hl [1, 2, 0] rfl)
  refine lv_iload_n hx hb dX1_meet_6 rfl (lv_at hl 0 rfl) ?_
  refine lv_iconst (v := (-1)) hx hb dX1_meet_7 (by decide) ?_
  refine lv_icmp_ne (tgt := 37) hx hb dX1_meet_8 (by decide) (fun c8 => ?_) (fun c8 => ?_)
  · skip
    exact join37 _ (by
      rcases plcF_in kp x kc 0 with h | ⟨j, h1, h2, h3⟩
      · exact absurd h c8
      · unfold mtG
        rw [if_neg c8, h3, nI_clamp (by omega)]) _ _ _ (fz_cast (congrArg (fun z => KW g o q kp z) (by unfold mtC; rw [if_neg c8])) hW) (lv_sub hl [1, 2, 0] rfl)
  · skip
    refine lv_aload_n hx hb dX1_meet_11 rfl (lv_at hl 1 rfl) ?_
    refine gf_X1_15 X hW 0 rfl rfl dX1_meet_12 ?_
    refine lv_bipush (v := 8) hx hb dX1_meet_15 (by decide) ?_
    refine lv_icmp_ge (tgt := 30) hx hb dX1_meet_17 (by decide) (fun c17 => ?_) (fun c17 => ?_)
    · skip
      have h17 : 8 ≤ kc := (nI_leI (a := 8) (b := kc) (by omega) (by omega)).mp c17
      refine lv_aload_n hx hb dX1_meet_30 rfl (lv_at hl 1 rfl) ?_
      refine gf_X1_15 X hW 0 rfl rfl dX1_meet_31 ?_
      refine lv_iconst (v := 1) hx hb dX1_meet_34 (by decide) ?_
      refine lv_isub hx hb dX1_meet_35 ?_
      refine lv_istore_n (lv' := [(2, .int ((nI kc) - 1)), (0, .ref o), (1, .int x)]) hx hb dX1_meet_36 rfl hl (by decide) rfl (fun ls hl => ?_)
      exact join37 _ (by
        unfold mtG
        rw [if_pos c8, if_neg (by omega), show kc = 7 + 1 by omega]
        exact nI_pred 7) _ _ _ (fz_cast (congrArg (fun z => KW g o q kp z) (by unfold mtC; rw [if_pos c8, if_neg (by omega)])) hW) (lv_sub hl [1, 2, 0] rfl)
    · skip
      have h17 : kc < 8 := Nat.not_le.mp (fun z => c17 ((nI_leI (a := 8) (b := kc) (by omega) (by omega)).mpr z))
      refine lv_aload_n hx hb dX1_meet_20 rfl (lv_at hl 1 rfl) ?_
      refine lv_dup hx hb dX1_meet_21 rfl ?_
      refine gf_X1_15 X hW 0 rfl rfl dX1_meet_22 ?_
      refine lv_iconst (v := 1) hx hb dX1_meet_25 (by decide) ?_
      refine lv_iadd hx hb dX1_meet_26 ?_
      refine pf_X1_15 X hW 0 rfl (Nat.le_of_ble_eq_true rfl) dX1_meet_27 (fun H locs hW => ?_)
      refine lv_aload_n hx hb dX1_meet_30 rfl (lv_at hl 1 rfl) ?_
      refine gf_X1_15 X hW 0 rfl rfl dX1_meet_31 ?_
      refine lv_iconst (v := 1) hx hb dX1_meet_34 (by decide) ?_
      refine lv_isub hx hb dX1_meet_35 ?_
      refine lv_istore_n (lv' := [(2, .int (((nI kc) + 1) - 1)), (0, .ref o), (1, .int x)]) hx hb dX1_meet_36 rfl hl (by decide) rfl (fun ls hl => ?_)
      exact join37 _ (by
        unfold mtG
        rw [if_pos c8, if_pos h17, nI_1]
        exact nI_pred kc) _ _ _ (fz_cast (by
        have e : mtC kp kc x = kc + 1 := by unfold mtC; rw [if_pos c8, if_pos h17]
        rw [e]
        exact congrArg (fun z => ([(o, .inr (1, [.ref q, .int z])), (q, .inl (g.2 0, 8, .inl kp))] : va_W)) (nI_1 kc)) hW) (lv_sub hl [1, 2, 0] rfl)
set_option maxHeartbeats 4000000 in
set_option maxRecDepth 100000 in
theorem c_X0_set (l : Launch) (g : GG) (o : Nat) (f h : Nat → Nat) : fz_C l g yX0_set cX0_set 7 none 0 0 [.ref o, .int (nI (h 0)), .int (nI (h 1)), .int (nI (h 2)), .int (nI (h 3)), .int (nI (h 4)), .int (nI (h 5))] (([(o, BM f)] : va_W)) (([(o, BM h)] : va_W)) none := by
  refine fz_C.of (by decide) (Nat.le_of_ble_eq_true rfl) ?_
  intro p e s m args below meth c A ls X hW hl
  have hx := X.1
  have hb := X.2.1
  have hl : lv_has ls 7 [(0, .ref o), (1, .int (nI (h 0))), (2, .int (nI (h 1))), (3, .int (nI (h 2))), (4, .int (nI (h 3))), (5, .int (nI (h 4))), (6, .int (nI (h 5)))] := hl
  have X : fz_X p s m meth c RX0 cX0_set 7 none g A := X
  have hW : fz_W g A s (([(o, BM f)] : va_W)) s.heap [] := hW
  refine lv_aload_n hx hb dX0_set_0 rfl (lv_at hl 0 rfl) ?_
  refine lv_iload_n hx hb dX0_set_1 rfl (lv_at hl 1 rfl) ?_
  refine pf_X0_9 X hW 0 rfl (Nat.le_of_ble_eq_true rfl) dX0_set_2 (fun H locs hW => ?_)
  refine lv_aload_n hx hb dX0_set_5 rfl (lv_at hl 0 rfl) ?_
  refine lv_iload_n hx hb dX0_set_6 rfl (lv_at hl 2 rfl) ?_
  refine pf_X0_15 X hW 0 rfl (Nat.le_of_ble_eq_true rfl) dX0_set_7 (fun H locs hW => ?_)
  refine lv_aload_n hx hb dX0_set_10 rfl (lv_at hl 0 rfl) ?_
  refine lv_iload_n hx hb dX0_set_11 rfl (lv_at hl 3 rfl) ?_
  refine pf_X0_18 X hW 0 rfl (Nat.le_of_ble_eq_true rfl) dX0_set_12 (fun H locs hW => ?_)
  refine lv_aload_n hx hb dX0_set_15 rfl (lv_at hl 0 rfl) ?_
  refine lv_iload hx hb dX0_set_16 (lv_at hl 4 rfl) ?_
  refine pf_X0_21 X hW 0 rfl (Nat.le_of_ble_eq_true rfl) dX0_set_18 (fun H locs hW => ?_)
  refine lv_aload_n hx hb dX0_set_21 rfl (lv_at hl 0 rfl) ?_
  refine lv_iload hx hb dX0_set_22 (lv_at hl 5 rfl) ?_
  refine pf_X0_24 X hW 0 rfl (Nat.le_of_ble_eq_true rfl) dX0_set_24 (fun H locs hW => ?_)
  refine lv_aload_n hx hb dX0_set_27 rfl (lv_at hl 0 rfl) ?_
  refine lv_iload hx hb dX0_set_28 (lv_at hl 6 rfl) ?_
  refine pf_X0_27 X hW 0 rfl (Nat.le_of_ble_eq_true rfl) dX0_set_30 (fun H locs hW => ?_)
  exact fz_rv X (fz_cast (rfl) hW) dX0_set_33
theorem fz_C.fr {l : Launch} {g : GG} {y : MethodName} {b : ByteArray} {n : Nat} {ret : Option FieldType} {rf rl : Nat} {as : List Value} {wc w1 : va_W} {v : Option Value} (h : fz_C l g y b n ret rf rl as wc w1 v) {ws ws1 : va_W} (isC isR isX : List Nat)
    (hC : isC.map (fun i => ws[i]?) = wc.map some) (hc : va_nd isC = true) (hR : isR.map (fun i => ws[i]?) = (isR.filterMap (fun i => ws[i]?)).map some) (hn : va_nd isR = true) (hdis : ∀ i ∈ isR, i ∉ isC) (hX : isX.map (fun i => (isR.filterMap (fun i => ws[i]?) ++ w1)[i]?) = ws1.map some) (hx : va_nd isX = true) : fz_C l g y b n ret rf rl as ws ws1 v := fz_C.frame h isC isR isX hC hc hR hn hdis hX hx
theorem c_X0_set2 (l : Launch) (g : GG) (o q : Nat) (f h k : Nat → Nat) : fz_C l g yX0_set cX0_set 7 none 0 0 [.ref o, .int (nI (h 0)), .int (nI (h 1)), .int (nI (h 2)), .int (nI (h 3)), .int (nI (h 4)), .int (nI (h 5))] (([(o, BM f), (q, BM k)] : va_W)) (([(o, BM h), (q, BM k)] : va_W)) none := fz_C.fr (c_X0_set l g o f h) [0] [1] [1, 0] rfl rfl rfl rfl (by decide) rfl rfl
set_option maxHeartbeats 4000000 in
set_option maxRecDepth 100000 in
theorem c_X0_copyFrom (l : Launch) (g : GG) (o q : Nat) (f h : Nat → Nat) : fz_C l g yX0_copyFrom cX0_copyFrom 2 none 1 26 [.ref o, .ref q] (([(o, BM f), (q, BM h)] : va_W)) (([(o, BM h), (q, BM h)] : va_W)) none := by
  refine fz_C.of (by decide) (Nat.le_of_ble_eq_true rfl) ?_
  intro p e s m args below meth c A ls X hW hl
  have hx := X.1
  have hb := X.2.1
  have hl : lv_has ls 2 [(0, .ref o), (1, .ref q)] := hl
  have X : fz_X p s m meth c RX0 cX0_copyFrom 2 none g A := X
  have hW : fz_W g A s (([(o, BM f), (q, BM h)] : va_W)) s.heap [] := hW
  refine lv_aload_n hx hb dX0_copyFrom_0 rfl (lv_at hl 0 rfl) ?_
  refine lv_aload_n hx hb dX0_copyFrom_1 rfl (lv_at hl 1 rfl) ?_
  refine gf_X0_9 X hW 1 rfl rfl dX0_copyFrom_2 ?_
  refine lv_aload_n hx hb dX0_copyFrom_5 rfl (lv_at hl 1 rfl) ?_
  refine gf_X0_15 X hW 1 rfl rfl dX0_copyFrom_6 ?_
  refine lv_aload_n hx hb dX0_copyFrom_9 rfl (lv_at hl 1 rfl) ?_
  refine gf_X0_18 X hW 1 rfl rfl dX0_copyFrom_10 ?_
  refine lv_aload_n hx hb dX0_copyFrom_13 rfl (lv_at hl 1 rfl) ?_
  refine gf_X0_21 X hW 1 rfl rfl dX0_copyFrom_14 ?_
  refine lv_aload_n hx hb dX0_copyFrom_17 rfl (lv_at hl 1 rfl) ?_
  refine gf_X0_24 X hW 1 rfl rfl dX0_copyFrom_18 ?_
  refine lv_aload_n hx hb dX0_copyFrom_21 rfl (lv_at hl 1 rfl) ?_
  refine gf_X0_27 X hW 1 rfl rfl dX0_copyFrom_22 ?_
  refine fz_cVv X hW (c_X0_set2 l g o q f h h) lk_X0_30 (ci := 0) (q0 := 0) rfl rfl rfl rfl ⟨Nat.le_of_ble_eq_true rfl, Nat.le_of_ble_eq_true rfl⟩ hl rfl (Nat.le_of_ble_eq_true rfl) dX0_copyFrom_25 ⟨Nat.le_refl _, Nat.le_refl _⟩ (fun H locs hW => ?_)
  exact fz_rv X (fz_cast (rfl) hW) dX0_copyFrom_28
set_option maxHeartbeats 4000000 in
set_option maxRecDepth 100000 in
theorem c_X0_copySelf (l : Launch) (g : GG) (o : Nat) (f : Nat → Nat) : fz_C l g yX0_copyFrom cX0_copyFrom 2 none 1 26 [.ref o, .ref o] (([(o, BM f)] : va_W)) (([(o, BM f)] : va_W)) none := by
  refine fz_C.of (by decide) (Nat.le_of_ble_eq_true rfl) ?_
  intro p e s m args below meth c A ls X hW hl
  have hx := X.1
  have hb := X.2.1
  have hl : lv_has ls 2 [(0, .ref o), (1, .ref o)] := hl
  have X : fz_X p s m meth c RX0 cX0_copyFrom 2 none g A := X
  have hW : fz_W g A s (([(o, BM f)] : va_W)) s.heap [] := hW
  refine lv_aload_n hx hb dX0_copyFrom_0 rfl (lv_at hl 0 rfl) ?_
  refine lv_aload_n hx hb dX0_copyFrom_1 rfl (lv_at hl 1 rfl) ?_
  refine gf_X0_9 X hW 0 rfl rfl dX0_copyFrom_2 ?_
  refine lv_aload_n hx hb dX0_copyFrom_5 rfl (lv_at hl 1 rfl) ?_
  refine gf_X0_15 X hW 0 rfl rfl dX0_copyFrom_6 ?_
  refine lv_aload_n hx hb dX0_copyFrom_9 rfl (lv_at hl 1 rfl) ?_
  refine gf_X0_18 X hW 0 rfl rfl dX0_copyFrom_10 ?_
  refine lv_aload_n hx hb dX0_copyFrom_13 rfl (lv_at hl 1 rfl) ?_
  refine gf_X0_21 X hW 0 rfl rfl dX0_copyFrom_14 ?_
  refine lv_aload_n hx hb dX0_copyFrom_17 rfl (lv_at hl 1 rfl) ?_
  refine gf_X0_24 X hW 0 rfl rfl dX0_copyFrom_18 ?_
  refine lv_aload_n hx hb dX0_copyFrom_21 rfl (lv_at hl 1 rfl) ?_
  refine gf_X0_27 X hW 0 rfl rfl dX0_copyFrom_22 ?_
  refine fz_cVv X hW (c_X0_set l g o f f) lk_X0_30 (ci := 0) (q0 := 0) rfl rfl rfl rfl ⟨Nat.le_of_ble_eq_true rfl, Nat.le_of_ble_eq_true rfl⟩ hl rfl (Nat.le_of_ble_eq_true rfl) dX0_copyFrom_25 ⟨Nat.le_refl _, Nat.le_refl _⟩ (fun H locs hW => ?_)
  exact fz_rv X (fz_cast (rfl) hW) dX0_copyFrom_28
theorem fz_tl (x y : Nat) : 8 * nI y + nI x = nI (8 * y + x) := by
  show nI 8 * nI y + nI x = _
  rw [pk_mul, nI_add]
theorem fz_tl2 (a b c d : Nat) : 8 * (nI c + nI d) + (nI a + nI b) = nI (8 * (c + d) + (a + b)) := by
  rw [nI_add, nI_add, fz_tl]
set_option maxHeartbeats 4000000 in
set_option maxRecDepth 100000 in
theorem c_X0_applyTo (l : Launch) (g : GG) (o q b : Nat) (f : Nat → Nat) (scr bef : Nat → Int32) (hm : MOK f) : fz_C l g yX0_applyTo cX0_applyTo 5 none 1 32 [.ref o, .ref q, .ref b] (AW g o q b f scr bef) (AW g o q b f (apF f scr bef) (fz_to scr bef 48)) none := by
  refine fz_C.of (by decide) (Nat.le_of_ble_eq_true rfl) ?_
  intro p e s m args below meth c A ls X hW hl
  have hx := X.1
  have hb := X.2.1
  have hl : lv_has ls 5 [(0, .ref o), (1, .ref q), (2, .ref b)] := hl
  have X : fz_X p s m meth c RX0 cX0_applyTo 5 none g A := X
  have hW : fz_W g A s (AW g o q b f scr bef) s.heap [] := hW
  obtain ⟨m1, m2, m3, m4⟩ := hm
  refine lv_aload_n hx hb dX0_applyTo_0 rfl (lv_at hl 1 rfl) ?_
  refine lv_iconst (v := 0) hx hb dX0_applyTo_1 (by decide) ?_
  refine lv_aload_n hx hb dX0_applyTo_2 rfl (lv_at hl 2 rfl) ?_
  refine lv_iconst (v := 0) hx hb dX0_applyTo_3 (by decide) ?_
  refine lv_bipush (v := 48) hx hb dX0_applyTo_4 (by decide) ?_
  refine fz_ac_X0 X hW hl 1 2 rfl rfl 48 (by decide) (by decide) (by decide) rfl (Nat.le_of_ble_eq_true rfl) (Nat.le_of_ble_eq_true rfl) dX0_applyTo_6 (fun H locs hW => ?_)
  refine lv_iconst (v := 0) hx hb dX0_applyTo_9 (by decide) ?_
  refine lv_istore_n (lv' := [(3, .int 0), (0, .ref o), (1, .ref q), (2, .ref b)]) hx hb dX0_applyTo_10 rfl hl (by decide) rfl (fun ls hl => ?_)
  have loop11 : ∀ (k : Nat) (i : Nat), i ≤ f 3 → f 3 < i + k → ∀ (H : Heap) (locs : List Loc) (ls : Array Slot), fz_W g A s (AW g o q b f (apR f (fz_to scr bef 48) scr i) (fz_to scr bef 48)) H locs → lv_has ls 5 [(0, .ref o), (1, .ref q), (2, .ref b), (3, .int (nI i))] → W p l e (fz_R 1 0 0 32) s m args below meth c H locs 0 0 (MQ below (fz_Q g (AW g o q b f (apF f scr bef) (fz_to scr bef 48)) none A) args s 0 0 A) (F0 m 11 ls []) := by
    intro k
    induction k with
    | zero =>
      intro i hi hk
      omega
    | succ k ih11 =>
      intro i hi hki H locs ls hW hl
      refine lv_iload_n hx hb dX0_applyTo_11 rfl (lv_at hl 3 rfl) ?_
      refine lv_aload_n hx hb dX0_applyTo_12 rfl (lv_at hl 0 rfl) ?_
      refine gf_X0_21 X hW 0 rfl rfl dX0_applyTo_13 ?_
      refine lv_icmp_ge (tgt := 79) hx hb dX0_applyTo_16 (by decide) (fun c16 => ?_) (fun c16 => ?_)
      · skip
        have h16 : f 3 ≤ i := (nI_leI (a := f 3) (b := i) (by omega) (by omega)).mp c16
        have e16 : i = f 3 := by omega
        have hl := lv_sub hl [0, 1, 2] rfl
        have hl : lv_has ls 5 [(0, .ref o), (1, .ref q), (2, .ref b)] := hl
        exact fz_rv X (fz_cast (by rw [e16]; rfl) hW) dX0_applyTo_79
      · skip
        have h16 : i < f 3 := Nat.not_le.mp (fun z => c16 ((nI_leI (a := f 3) (b := i) (by omega) (by omega)).mpr z))
        refine lv_iconst (v := 0) hx hb dX0_applyTo_19 (by decide) ?_
        refine lv_istore (lv' := [(4, .int 0), (0, .ref o), (1, .ref q), (2, .ref b), (3, .int (nI i))]) hx hb dX0_applyTo_20 hl (by decide) rfl (fun ls hl => ?_)
        have loop22 : ∀ (k : Nat) (j : Nat), j ≤ f 2 → f 2 < j + k → ∀ (H : Heap) (locs : List Loc) (ls : Array Slot), fz_W g A s (AW g o q b f (apC f (fz_to scr bef 48) i (apR f (fz_to scr bef 48) scr i) j) (fz_to scr bef 48)) H locs → lv_has ls 5 [(0, .ref o), (1, .ref q), (2, .ref b), (3, .int (nI i)), (4, .int (nI j))] → W p l e (fz_R 1 0 0 32) s m args below meth c H locs 0 0 (MQ below (fz_Q g (AW g o q b f (apF f scr bef) (fz_to scr bef 48)) none A) args s 0 0 A) (F0 m 22 ls []) := by
          intro k
          induction k with
          | zero =>
            intro j hj hk
            omega
          | succ k ih22 =>
            intro j hj hkj H locs ls hW hl
            refine lv_iload hx hb dX0_applyTo_22 (lv_at hl 4 rfl) ?_
            refine lv_aload_n hx hb dX0_applyTo_24 rfl (lv_at hl 0 rfl) ?_
            refine gf_X0_18 X hW 0 rfl rfl dX0_applyTo_25 ?_
            refine lv_icmp_ge (tgt := 73) hx hb dX0_applyTo_28 (by decide) (fun c28 => ?_) (fun c28 => ?_)
            · skip
              have h28 : f 2 ≤ j := (nI_leI (a := f 2) (b := j) (by omega) (by omega)).mp c28
              have e28 : j = f 2 := by omega
              have hl := lv_sub hl [0, 1, 2, 3] rfl
              have hl : lv_has ls 5 [(0, .ref o), (1, .ref q), (2, .ref b), (3, .int (nI i))] := hl
              refine lv_iinc (v := nI (i + 1)) (lv' := [(3, .int (nI (i + 1))), (0, .ref o), (1, .ref q), (2, .ref b)]) hx hb dX0_applyTo_73 hl (k := 3) rfl (nI_1 _) (by decide) rfl (fun ls hl => ?_)
              refine lv_goto (tgt := 11) hx hb dX0_applyTo_76 (by decide) ?_
              exact ih11 (i + 1) (by omega) (by omega) _ _ _ (fz_cast (by rw [e28]; rfl) hW) (lv_sub hl [1, 2, 3, 0] rfl)
            · skip
              have h28 : j < f 2 := Nat.not_le.mp (fun z => c28 ((nI_leI (a := f 2) (b := j) (by omega) (by omega)).mpr z))
              refine lv_aload_n hx hb dX0_applyTo_31 rfl (lv_at hl 1 rfl) ?_
              refine lv_aload_n hx hb dX0_applyTo_32 rfl (lv_at hl 0 rfl) ?_
              refine gf_X0_24 X hW 0 rfl rfl dX0_applyTo_33 ?_
              refine lv_iload hx hb dX0_applyTo_36 (lv_at hl 4 rfl) ?_
              refine lv_iadd hx hb dX0_applyTo_38 ?_
              refine lv_aload_n hx hb dX0_applyTo_39 rfl (lv_at hl 0 rfl) ?_
              refine gf_X0_27 X hW 0 rfl rfl dX0_applyTo_40 ?_
              refine lv_iload_n hx hb dX0_applyTo_43 rfl (lv_at hl 3 rfl) ?_
              refine lv_iadd hx hb dX0_applyTo_44 ?_
              refine fz_cNi X hW (c_X3_tileAt l g _ _ _) lk_X0_40 rfl ⟨Nat.le_of_ble_eq_true rfl, Nat.le_of_ble_eq_true rfl⟩ hl rfl (Nat.le_of_ble_eq_true rfl) dX0_applyTo_45 ⟨Nat.le_refl _, Nat.le_refl _⟩ (fun H locs hW => ?_)
              refine lv_aload_n hx hb dX0_applyTo_48 rfl (lv_at hl 2 rfl) ?_
              refine lv_aload_n hx hb dX0_applyTo_49 rfl (lv_at hl 0 rfl) ?_
              refine gf_X0_9 X hW 0 rfl rfl dX0_applyTo_50 ?_
              refine lv_iload hx hb dX0_applyTo_53 (lv_at hl 4 rfl) ?_
              refine lv_iadd hx hb dX0_applyTo_55 ?_
              refine lv_aload_n hx hb dX0_applyTo_56 rfl (lv_at hl 0 rfl) ?_
              refine gf_X0_15 X hW 0 rfl rfl dX0_applyTo_57 ?_
              refine lv_iload_n hx hb dX0_applyTo_60 rfl (lv_at hl 3 rfl) ?_
              refine lv_iadd hx hb dX0_applyTo_61 ?_
              refine fz_cNi X hW (c_X3_tileAt l g _ _ _) lk_X0_40 rfl ⟨Nat.le_of_ble_eq_true rfl, Nat.le_of_ble_eq_true rfl⟩ hl rfl (Nat.le_of_ble_eq_true rfl) dX0_applyTo_62 ⟨Nat.le_refl _, Nat.le_refl _⟩ (fun H locs hW => ?_)
              refine fz_il X hW 2 (8 * (f 1 + i) + (f 0 + j)) rfl (fz_tl2 _ _ _ _) (by omega) (by decide) dX0_applyTo_65 ?_
              refine fz_is X hW 1 (8 * (f 5 + i) + (f 4 + j)) rfl (fz_tl2 _ _ _ _) (by omega) (by decide) dX0_applyTo_66 (fun H locs hW => ?_)
              refine lv_iinc (v := nI (j + 1)) (lv' := [(4, .int (nI (j + 1))), (0, .ref o), (1, .ref q), (2, .ref b), (3, .int (nI i))]) hx hb dX0_applyTo_67 hl (k := 4) rfl (nI_1 _) (by decide) rfl (fun ls hl => ?_)
              refine lv_goto (tgt := 22) hx hb dX0_applyTo_70 (by decide) ?_
              exact ih22 (j + 1) (by omega) (by omega) _ _ _ (fz_cast (rfl) hW) (lv_sub hl [1, 2, 3, 4, 0] rfl)
        exact loop22 (f 2 + 1) 0 (by omega) (by omega) _ _ _ (fz_cast (rfl) hW) (lv_sub hl [1, 2, 3, 4, 0] rfl)
  exact loop11 (f 3 + 1) 0 (by omega) (by omega) _ _ _ (fz_cast (rfl) hW) (lv_sub hl [1, 2, 3, 0] rfl)
set_option maxHeartbeats 4000000 in
set_option maxRecDepth 100000 in
theorem c_X1_copyFrom (l : Launch) (g : GG) (o q o2 q2 : Nat) (kp kp2 : Nat → Int32) (kc kc2 : Nat) : fz_C l g yX1_copyFrom cX1_copyFrom 2 none 1 32 [.ref o, .ref o2] (KW g o q kp kc ++ KW g o2 q2 kp2 kc2) (KW g o q (fz_to kp2 kp 8) kc2 ++ KW g o2 q2 kp2 kc2) none := by
  refine fz_C.of (by decide) (Nat.le_of_ble_eq_true rfl) ?_
  intro p e s m args below meth c A ls X hW hl
  have hx := X.1
  have hb := X.2.1
  have hl : lv_has ls 2 [(0, .ref o), (1, .ref o2)] := hl
  have X : fz_X p s m meth c RX1 cX1_copyFrom 2 none g A := X
  have hW : fz_W g A s (KW g o q kp kc ++ KW g o2 q2 kp2 kc2) s.heap [] := hW
  refine lv_aload_n hx hb dX1_copyFrom_0 rfl (lv_at hl 1 rfl) ?_
  refine gf_X1_9 X hW 2 rfl rfl dX1_copyFrom_1 ?_
  refine lv_iconst (v := 0) hx hb dX1_copyFrom_4 (by decide) ?_
  refine lv_aload_n hx hb dX1_copyFrom_5 rfl (lv_at hl 0 rfl) ?_
  refine gf_X1_9 X hW 0 rfl rfl dX1_copyFrom_6 ?_
  refine lv_iconst (v := 0) hx hb dX1_copyFrom_9 (by decide) ?_
  refine lv_bipush (v := 8) hx hb dX1_copyFrom_10 (by decide) ?_
  refine fz_ac_X1 X hW hl 3 1 rfl rfl 8 (by decide) (by decide) (by decide) rfl (Nat.le_of_ble_eq_true rfl) (Nat.le_of_ble_eq_true rfl) dX1_copyFrom_12 (fun H locs hW => ?_)
  refine lv_aload_n hx hb dX1_copyFrom_15 rfl (lv_at hl 0 rfl) ?_
  refine lv_aload_n hx hb dX1_copyFrom_16 rfl (lv_at hl 1 rfl) ?_
  refine gf_X1_15 X hW 2 rfl rfl dX1_copyFrom_17 ?_
  refine pf_X1_15 X hW 0 rfl (Nat.le_of_ble_eq_true rfl) dX1_copyFrom_20 (fun H locs hW => ?_)
  exact fz_rv X (fz_cast (rfl) hW) dX1_copyFrom_23
theorem fz_abs {p : Program} {l : Launch} {e : Env} {R : Room} {s : State} {m : MethodId} {args : Array Value} {below : List Frame} {meth : Method} {c : Code} {H : Heap} {locs : List Loc} {cells slots : Nat} {Q : State → Prop} {cc : ByteArray} {n : Nat} {ret : Option FieldType} {g : GG} {A : Nat → Prop} {pc : Nat} {ls : Array Slot} {rest : List Value} {lv : List (Nat × Value)} (X : fz_X p s m meth c RX2 cc n ret g A) (hl : lv_has ls n lv) (hfr : 1 ≤ R.frames) (hlo : (rest.map fun v => v.category).sum + 13 ≤ R.locals) {x : Int32} (hdg : decode cc pc = .ok (.invokestatic 143, 3)) (hcs : cells ≤ R.cells ∧ slots ≤ R.slots)
    (kk : W p l e R s m args below meth c H locs cells slots Q (F0 m (pc + 3) ls (.int (absI x) :: rest))) : W p l e R s m args below meth c H locs cells slots Q (F0 m pc ls (.int x :: rest)) := by
  have hE := X.2.2.2.2.2.2.1
  obtain ⟨⟨h1, h2, -⟩, h3, h4⟩ := lk_X2_143
  exact va_mabs X.1 X.2.1 (X.2.2.2.1.trans hl.1.symm) X.2.2.2.2.1 (hE.use h3 args) (hE.use h4 args) (hE.use h1 args) (hE.use h2 args) hfr hlo hcs.1 hcs.2 hdg kk
set_option maxHeartbeats 4000000 in
set_option maxRecDepth 100000 in
theorem c_J6_bitCount_0f7a4 (l : Launch) (g : GG) (x : Int32) (ws : va_W) : fz_C l g yJ6_bitCount_0f7a4 cJ6_bitCount_0f7a4 1 (some .int) 0 0 [.int x] (ws) (ws) (some (.int (bcI x))) := by
  refine fz_C.of (by decide) (Nat.le_of_ble_eq_true rfl) ?_
  intro p e s m args below meth c A ls X hW hl
  have hx := X.1
  have hb := X.2.1
  have hl : lv_has ls 1 [(0, .int x)] := hl
  have X : fz_X p s m meth c RJ6 cJ6_bitCount_0f7a4 1 (some .int) g A := X
  have hW : fz_W g A s (ws) s.heap [] := hW
  refine lv_iload_n hx hb dJ6_bitCount_0f7a4_0 rfl (lv_at hl 0 rfl) ?_
  refine lv_iload_n hx hb dJ6_bitCount_0f7a4_1 rfl (lv_at hl 0 rfl) ?_
  refine lv_iconst (v := 1) hx hb dJ6_bitCount_0f7a4_2 (by decide) ?_
  refine lv_iushr hx hb dJ6_bitCount_0f7a4_3 rfl ?_
  refine lv_ldcw hx hb X.2.2.2.2.1 (X.2.2.2.2.2.2.1.use mk_434 args) dJ6_bitCount_0f7a4_4 ?_
  refine lv_iand hx hb dJ6_bitCount_0f7a4_7 ?_
  refine lv_isub hx hb dJ6_bitCount_0f7a4_8 ?_
  refine lv_topi (fun y1 e_y1 => ?_)
  refine lv_istore_n (lv' := [(0, .int y1)]) hx hb dJ6_bitCount_0f7a4_9 rfl hl (by decide) rfl (fun ls hl => ?_)
  refine lv_iload_n hx hb dJ6_bitCount_0f7a4_10 rfl (lv_at hl 0 rfl) ?_
  refine lv_ldcw hx hb X.2.2.2.2.1 (X.2.2.2.2.2.2.1.use mk_435 args) dJ6_bitCount_0f7a4_11 ?_
  refine lv_iand hx hb dJ6_bitCount_0f7a4_14 ?_
  refine lv_iload_n hx hb dJ6_bitCount_0f7a4_15 rfl (lv_at hl 0 rfl) ?_
  refine lv_iconst (v := 2) hx hb dJ6_bitCount_0f7a4_16 (by decide) ?_
  refine lv_iushr hx hb dJ6_bitCount_0f7a4_17 rfl ?_
  refine lv_ldcw hx hb X.2.2.2.2.1 (X.2.2.2.2.2.2.1.use mk_435 args) dJ6_bitCount_0f7a4_18 ?_
  refine lv_iand hx hb dJ6_bitCount_0f7a4_21 ?_
  refine lv_iadd hx hb dJ6_bitCount_0f7a4_22 ?_
  refine lv_topi (fun y2 e_y2 => ?_)
  refine lv_istore_n (lv' := [(0, .int y2)]) hx hb dJ6_bitCount_0f7a4_23 rfl hl (by decide) rfl (fun ls hl => ?_)
  refine lv_iload_n hx hb dJ6_bitCount_0f7a4_24 rfl (lv_at hl 0 rfl) ?_
  refine lv_iload_n hx hb dJ6_bitCount_0f7a4_25 rfl (lv_at hl 0 rfl) ?_
  refine lv_iconst (v := 4) hx hb dJ6_bitCount_0f7a4_26 (by decide) ?_
  refine lv_iushr hx hb dJ6_bitCount_0f7a4_27 rfl ?_
  refine lv_iadd hx hb dJ6_bitCount_0f7a4_28 ?_
  refine lv_ldcw hx hb X.2.2.2.2.1 (X.2.2.2.2.2.2.1.use mk_436 args) dJ6_bitCount_0f7a4_29 ?_
  refine lv_iand hx hb dJ6_bitCount_0f7a4_32 ?_
  refine lv_topi (fun y3 e_y3 => ?_)
  refine lv_istore_n (lv' := [(0, .int y3)]) hx hb dJ6_bitCount_0f7a4_33 rfl hl (by decide) rfl (fun ls hl => ?_)
  refine lv_iload_n hx hb dJ6_bitCount_0f7a4_34 rfl (lv_at hl 0 rfl) ?_
  refine lv_iload_n hx hb dJ6_bitCount_0f7a4_35 rfl (lv_at hl 0 rfl) ?_
  refine lv_bipush (v := 8) hx hb dJ6_bitCount_0f7a4_36 (by decide) ?_
  refine lv_iushr hx hb dJ6_bitCount_0f7a4_38 rfl ?_
  refine lv_iadd hx hb dJ6_bitCount_0f7a4_39 ?_
  refine lv_topi (fun y4 e_y4 => ?_)
  refine lv_istore_n (lv' := [(0, .int y4)]) hx hb dJ6_bitCount_0f7a4_40 rfl hl (by decide) rfl (fun ls hl => ?_)
  refine lv_iload_n hx hb dJ6_bitCount_0f7a4_41 rfl (lv_at hl 0 rfl) ?_
  refine lv_iload_n hx hb dJ6_bitCount_0f7a4_42 rfl (lv_at hl 0 rfl) ?_
  refine lv_bipush (v := 16) hx hb dJ6_bitCount_0f7a4_43 (by decide) ?_
  refine lv_iushr hx hb dJ6_bitCount_0f7a4_45 rfl ?_
  refine lv_iadd hx hb dJ6_bitCount_0f7a4_46 ?_
  refine lv_topi (fun y5 e_y5 => ?_)
  refine lv_istore_n (lv' := [(0, .int y5)]) hx hb dJ6_bitCount_0f7a4_47 rfl hl (by decide) rfl (fun ls hl => ?_)
  refine lv_iload_n hx hb dJ6_bitCount_0f7a4_48 rfl (lv_at hl 0 rfl) ?_
  refine lv_bipush (v := 63) hx hb dJ6_bitCount_0f7a4_49 (by decide) ?_
  refine lv_iand hx hb dJ6_bitCount_0f7a4_51 ?_
  exact fz_ri X (fz_cast (rfl) hW) (by subst e_y5; subst e_y4; subst e_y3; subst e_y2; subst e_y1; rfl) dJ6_bitCount_0f7a4_52
set_option maxHeartbeats 4000000 in
set_option maxRecDepth 100000 in
theorem c_J13_bitCount_95d88 (l : Launch) (g : GG) (x : Int64) (ws : va_W) : fz_C l g yJ13_bitCount_95d88 cJ13_bitCount_95d88 2 (some .int) 0 0 [.long x] (ws) (ws) (some (.int (bcL x))) := by
  refine fz_C.of (by decide) (Nat.le_of_ble_eq_true rfl) ?_
  intro p e s m args below meth c A ls X hW hl
  have hx := X.1
  have hb := X.2.1
  have hl : lv_has ls 2 [(0, .long x)] := hl
  have X : fz_X p s m meth c RJ13 cJ13_bitCount_95d88 2 (some .int) g A := X
  have hW : fz_W g A s (ws) s.heap [] := hW
  refine lv_lload_n hx hb dJ13_bitCount_95d88_0 rfl (lv_at hl 0 rfl) ?_
  refine lv_lload_n hx hb dJ13_bitCount_95d88_1 rfl (lv_at hl 0 rfl) ?_
  refine lv_iconst (v := 1) hx hb dJ13_bitCount_95d88_2 (by decide) ?_
  refine lv_lushr hx hb dJ13_bitCount_95d88_3 rfl ?_
  refine lv_ldc2 hx hb X.2.2.2.2.1 (X.2.2.2.2.2.2.1.use mk_323 args) dJ13_bitCount_95d88_4 ?_
  refine lv_land hx hb dJ13_bitCount_95d88_7 ?_
  refine lv_lsub hx hb dJ13_bitCount_95d88_8 ?_
  refine lv_topl (fun y1 e_y1 => ?_)
  refine lv_lstore_n (lv' := [(0, .long y1)]) hx hb dJ13_bitCount_95d88_9 rfl hl (by decide) rfl (fun ls hl => ?_)
  refine lv_lload_n hx hb dJ13_bitCount_95d88_10 rfl (lv_at hl 0 rfl) ?_
  refine lv_ldc2 hx hb X.2.2.2.2.1 (X.2.2.2.2.2.2.1.use mk_324 args) dJ13_bitCount_95d88_11 ?_
  refine lv_land hx hb dJ13_bitCount_95d88_14 ?_
  refine lv_lload_n hx hb dJ13_bitCount_95d88_15 rfl (lv_at hl 0 rfl) ?_
  refine lv_iconst (v := 2) hx hb dJ13_bitCount_95d88_16 (by decide) ?_
  refine lv_lushr hx hb dJ13_bitCount_95d88_17 rfl ?_
  refine lv_ldc2 hx hb X.2.2.2.2.1 (X.2.2.2.2.2.2.1.use mk_324 args) dJ13_bitCount_95d88_18 ?_
  refine lv_land hx hb dJ13_bitCount_95d88_21 ?_
  refine lv_ladd hx hb dJ13_bitCount_95d88_22 ?_
  refine lv_topl (fun y2 e_y2 => ?_)
  refine lv_lstore_n (lv' := [(0, .long y2)]) hx hb dJ13_bitCount_95d88_23 rfl hl (by decide) rfl (fun ls hl => ?_)
  refine lv_lload_n hx hb dJ13_bitCount_95d88_24 rfl (lv_at hl 0 rfl) ?_
  refine lv_lload_n hx hb dJ13_bitCount_95d88_25 rfl (lv_at hl 0 rfl) ?_
  refine lv_iconst (v := 4) hx hb dJ13_bitCount_95d88_26 (by decide) ?_
  refine lv_lushr hx hb dJ13_bitCount_95d88_27 rfl ?_
  refine lv_ladd hx hb dJ13_bitCount_95d88_28 ?_
  refine lv_ldc2 hx hb X.2.2.2.2.1 (X.2.2.2.2.2.2.1.use mk_325 args) dJ13_bitCount_95d88_29 ?_
  refine lv_land hx hb dJ13_bitCount_95d88_32 ?_
  refine lv_topl (fun y3 e_y3 => ?_)
  refine lv_lstore_n (lv' := [(0, .long y3)]) hx hb dJ13_bitCount_95d88_33 rfl hl (by decide) rfl (fun ls hl => ?_)
  refine lv_lload_n hx hb dJ13_bitCount_95d88_34 rfl (lv_at hl 0 rfl) ?_
  refine lv_lload_n hx hb dJ13_bitCount_95d88_35 rfl (lv_at hl 0 rfl) ?_
  refine lv_bipush (v := 8) hx hb dJ13_bitCount_95d88_36 (by decide) ?_
  refine lv_lushr hx hb dJ13_bitCount_95d88_38 rfl ?_
  refine lv_ladd hx hb dJ13_bitCount_95d88_39 ?_
  refine lv_topl (fun y4 e_y4 => ?_)
  refine lv_lstore_n (lv' := [(0, .long y4)]) hx hb dJ13_bitCount_95d88_40 rfl hl (by decide) rfl (fun ls hl => ?_)
  refine lv_lload_n hx hb dJ13_bitCount_95d88_41 rfl (lv_at hl 0 rfl) ?_
  refine lv_lload_n hx hb dJ13_bitCount_95d88_42 rfl (lv_at hl 0 rfl) ?_
  refine lv_bipush (v := 16) hx hb dJ13_bitCount_95d88_43 (by decide) ?_
  refine lv_lushr hx hb dJ13_bitCount_95d88_45 rfl ?_
  refine lv_ladd hx hb dJ13_bitCount_95d88_46 ?_
  refine lv_topl (fun y5 e_y5 => ?_)
  refine lv_lstore_n (lv' := [(0, .long y5)]) hx hb dJ13_bitCount_95d88_47 rfl hl (by decide) rfl (fun ls hl => ?_)
  refine lv_lload_n hx hb dJ13_bitCount_95d88_48 rfl (lv_at hl 0 rfl) ?_
  refine lv_lload_n hx hb dJ13_bitCount_95d88_49 rfl (lv_at hl 0 rfl) ?_
  refine lv_bipush (v := 32) hx hb dJ13_bitCount_95d88_50 (by decide) ?_
  refine lv_lushr hx hb dJ13_bitCount_95d88_52 rfl ?_
  refine lv_ladd hx hb dJ13_bitCount_95d88_53 ?_
  refine lv_topl (fun y6 e_y6 => ?_)
  refine lv_lstore_n (lv' := [(0, .long y6)]) hx hb dJ13_bitCount_95d88_54 rfl hl (by decide) rfl (fun ls hl => ?_)
  refine lv_lload_n hx hb dJ13_bitCount_95d88_55 rfl (lv_at hl 0 rfl) ?_
  refine lv_l2i hx hb dJ13_bitCount_95d88_56 rfl ?_
  refine lv_bipush (v := 127) hx hb dJ13_bitCount_95d88_57 (by decide) ?_
  refine lv_iand hx hb dJ13_bitCount_95d88_59 ?_
  exact fz_ri X (fz_cast (rfl) hW) (by subst e_y6; subst e_y5; subst e_y4; subst e_y3; subst e_y2; subst e_y1; rfl) dJ13_bitCount_95d88_60
