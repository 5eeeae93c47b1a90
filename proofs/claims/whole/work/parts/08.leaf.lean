set_option maxHeartbeats 4000000 in
set_option maxRecDepth 100000 in
theorem c_X3_tileAt (l : Launch) (g : GG) (x y : Int32) (ws : va_W) : fz_C l g yX3_tileAt cX3_tileAt 2 (some .int) 0 0 [.int x, .int y] (ws) (ws) (some (.int (8 * y + x))) := by
  refine fz_C.of (by decide) (Nat.le_of_ble_eq_true rfl) ?_
  intro p e s m args below meth c A ls X hW hl
  have hx := X.1
  have hb := X.2.1
  have hl : lv_has ls 2 [(0, .int x), (1, .int y)] := hl
  have X : fz_X p s m meth c RX3 cX3_tileAt 2 (some .int) g A := X
  have hW : fz_W g A s (ws) s.heap [] := hW
  refine lv_bipush (v := 8) hx hb dX3_tileAt_0 (by decide) ?_
  refine lv_iload_n hx hb dX3_tileAt_2 rfl (lv_at hl 1 rfl) ?_
  refine lv_imul hx hb dX3_tileAt_3 ?_
  refine lv_iload_n hx hb dX3_tileAt_4 rfl (lv_at hl 0 rfl) ?_
  refine lv_iadd hx hb dX3_tileAt_5 ?_
  exact fz_ri X (fz_cast (rfl) hW) (rfl) dX3_tileAt_6
set_option maxHeartbeats 4000000 in
set_option maxRecDepth 100000 in
theorem c_X3_wholeCost (l : Launch) (g : GG) (x : Int32) (ws : va_W) : fz_C l g yX3_wholeCost cX3_wholeCost 1 (some .int) 0 0 [.int x] (ws) (ws) (some (.int (wcI x))) := by
  refine fz_C.of (by decide) (Nat.le_of_ble_eq_true rfl) ?_
  intro p e s m args below meth c A ls X hW hl
  have hx := X.1
  have hb := X.2.1
  have hl : lv_has ls 1 [(0, .int x)] := hl
  have X : fz_X p s m meth c RX3 cX3_wholeCost 1 (some .int) g A := X
  have hW : fz_W g A s (ws) s.heap [] := hW
  refine lv_iload_n hx hb dX3_wholeCost_0 rfl (lv_at hl 0 rfl) ?_
  refine lv_bipush (v := 64) hx hb dX3_wholeCost_1 (by decide) ?_
  refine lv_icmp_ge (tgt := 10) hx hb dX3_wholeCost_3 (by decide) (fun c3 => ?_) (fun c3 => ?_)
  · skip
    refine lv_bipush (v := 6) hx hb dX3_wholeCost_10 (by decide) ?_
    exact fz_ri X (fz_cast (rfl) hW) (by first | exact (if_neg (Int32.not_lt.mpr c3)).symm | exact (if_pos (Int32.not_le.mp c3)).symm) dX3_wholeCost_12
  · skip
    refine lv_iconst (v := 2) hx hb dX3_wholeCost_6 (by decide) ?_
    refine lv_goto (tgt := 12) hx hb dX3_wholeCost_7 (by decide) ?_
    exact fz_ri X (fz_cast (rfl) hW) (by first | exact (if_neg (Int32.not_lt.mpr c3)).symm | exact (if_pos (Int32.not_le.mp c3)).symm) dX3_wholeCost_12
set_option maxHeartbeats 4000000 in
set_option maxRecDepth 100000 in
theorem c_X1_placeOf (l : Launch) (g : GG) (o q : Nat) (kp : Nat → Int32) (kc : Nat) (x : Int32) (hkc : kc ≤ 8) : fz_C l g yX1_placeOf cX1_placeOf 3 (some .int) 0 0 [.ref o, .int x] (KW g o q kp kc) (KW g o q kp kc) (some (.int (plcF kp x 0 kc))) := by
  refine fz_C.of (by decide) (Nat.le_of_ble_eq_true rfl) ?_
  intro p e s m args below meth c A ls X hW hl
  have hx := X.1
  have hb := X.2.1
  have hl : lv_has ls 3 [(0, .ref o), (1, .int x)] := hl
  have X : fz_X p s m meth c RX1 cX1_placeOf 3 (some .int) g A := X
  have hW : fz_W g A s (KW g o q kp kc) s.heap [] := hW
  refine lv_iconst (v := 0) hx hb dX1_placeOf_0 (by decide) ?_
  refine lv_istore_n (lv' := [(2, .int 0), (0, .ref o), (1, .int x)]) hx hb dX1_placeOf_1 rfl hl (by decide) rfl (fun ls hl => ?_)
  have loop2 : ∀ (k : Nat) (i : Nat), i ≤ kc → kc < i + k → plcF kp x 0 kc = plcF kp x i (kc - i) → ∀ (H : Heap) (locs : List Loc) (ls : Array Slot), fz_W g A s (KW g o q kp kc) H locs → lv_has ls 3 [(0, .ref o), (1, .int x), (2, .int (nI i))] → W p l e (fz_R 0 0 0 0) s m args below meth c H locs 0 0 (MQ below (fz_Q g (KW g o q kp kc) (some (.int (plcF kp x 0 kc))) A) args s 0 0 A) (F0 m 2 ls []) := by
    intro k
    induction k with
    | zero =>
      intro i hi hk
      omega
    | succ k ih2 =>
      intro i hi hk he H locs ls hW hl
      refine lv_iload_n hx hb dX1_placeOf_2 rfl (lv_at hl 2 rfl) ?_
      refine lv_aload_n hx hb dX1_placeOf_3 rfl (lv_at hl 0 rfl) ?_
      refine gf_X1_15 X hW 0 rfl rfl dX1_placeOf_4 ?_
      refine lv_icmp_ge (tgt := 28) hx hb dX1_placeOf_7 (by decide) (fun c7 => ?_) (fun c7 => ?_)
      · skip
        have h7 : kc ≤ i := (nI_leI (a := kc) (b := i) (by omega) (by omega)).mp c7
        refine lv_iconst (v := (-1)) hx hb dX1_placeOf_28 (by decide) ?_
        exact fz_ri X (fz_cast (rfl) hW) (by rw [he, show kc - i = 0 by omega]; rfl) dX1_placeOf_29
      · skip
        have h7 : i < kc := Nat.not_le.mp (fun z => c7 ((nI_leI (a := kc) (b := i) (by omega) (by omega)).mpr z))
        refine lv_aload_n hx hb dX1_placeOf_10 rfl (lv_at hl 0 rfl) ?_
        refine gf_X1_9 X hW 0 rfl rfl dX1_placeOf_11 ?_
        refine lv_iload_n hx hb dX1_placeOf_14 rfl (lv_at hl 2 rfl) ?_
        refine fz_il X hW 1 (i) rfl rfl (by omega) (by decide) dX1_placeOf_15 ?_
        refine lv_iload_n hx hb dX1_placeOf_16 rfl (lv_at hl 1 rfl) ?_
        refine lv_icmp_ne (tgt := 22) hx hb dX1_placeOf_17 (by decide) (fun c17 => ?_) (fun c17 => ?_)
        · skip
          refine lv_iinc (v := nI (i + 1)) (lv' := [(2, .int (nI (i + 1))), (0, .ref o), (1, .int x)]) hx hb dX1_placeOf_22 hl (k := 2) rfl (nI_1 _) (by decide) rfl (fun ls hl => ?_)
          refine lv_goto (tgt := 2) hx hb dX1_placeOf_25 (by decide) ?_
          exact ih2 (i + 1) (by omega) (by omega) (by rw [he, show kc - i = (kc - (i + 1)) + 1 by omega]; exact if_neg c17) _ _ _ (fz_cast (rfl) hW) (lv_sub hl [1, 2, 0] rfl)
        · skip
          refine lv_iload_n hx hb dX1_placeOf_20 rfl (lv_at hl 2 rfl) ?_
          exact fz_ri X (fz_cast (rfl) hW) (by rw [he, show kc - i = (kc - (i + 1)) + 1 by omega]; exact (if_pos c17).symm) dX1_placeOf_21
  exact loop2 (kc + 1) 0 (by omega) (by omega) rfl _ _ _ (fz_cast (rfl) hW) (lv_sub hl [1, 2, 0] rfl)
set_option maxHeartbeats 4000000 in
set_option maxRecDepth 100000 in
theorem c_X1_holds (l : Launch) (g : GG) (o q : Nat) (kp : Nat → Int32) (kc : Nat) (x : Int32) (hkc : kc ≤ 8) : fz_C l g yX1_holds cX1_holds 2 (some .boolean) 1 22 [.ref o, .int x] (KW g o q kp kc) (KW g o q kp kc) (some (.int (if plcF kp x 0 kc = -1 then 0 else 1))) := by
  refine fz_C.of (by decide) (Nat.le_of_ble_eq_true rfl) ?_
  intro p e s m args below meth c A ls X hW hl
  have hx := X.1
  have hb := X.2.1
  have hl : lv_has ls 2 [(0, .ref o), (1, .int x)] := hl
  have X : fz_X p s m meth c RX1 cX1_holds 2 (some .boolean) g A := X
  have hW : fz_W g A s (KW g o q kp kc) s.heap [] := hW
  refine lv_aload_n hx hb dX1_holds_0 rfl (lv_at hl 0 rfl) ?_
  refine lv_iload_n hx hb dX1_holds_1 rfl (lv_at hl 1 rfl) ?_
  refine fz_cVi X hW (c_X1_placeOf l g o q kp kc x hkc) lk_X1_25 (ci := 1) (q0 := 0) rfl rfl rfl rfl ⟨Nat.le_of_ble_eq_true rfl, Nat.le_of_ble_eq_true rfl⟩ hl rfl (Nat.le_of_ble_eq_true rfl) dX1_holds_2 ⟨Nat.le_refl _, Nat.le_refl _⟩ (fun H locs hW => ?_)
  refine lv_iconst (v := (-1)) hx hb dX1_holds_5 (by decide) ?_
  refine lv_icmp_eq (tgt := 13) hx hb dX1_holds_6 (by decide) (fun c6 => ?_) (fun c6 => ?_)
  · skip
    refine lv_iconst (v := 0) hx hb dX1_holds_13 (by decide) ?_
    exact fz_rz X (fz_cast (rfl) hW) (by first | exact (if_neg c6).symm | exact (if_pos c6).symm) (by by_cases h : plcF kp x 0 kc = -1 <;> simp only [h, if_true, if_false] <;> rfl) dX1_holds_14
  · skip
    refine lv_iconst (v := 1) hx hb dX1_holds_9 (by decide) ?_
    refine lv_goto (tgt := 14) hx hb dX1_holds_10 (by decide) ?_
    exact fz_rz X (fz_cast (rfl) hW) (by first | exact (if_neg c6).symm | exact (if_pos c6).symm) (by by_cases h : plcF kp x 0 kc = -1 <;> simp only [h, if_true, if_false] <;> rfl) dX1_holds_14
set_option maxHeartbeats 4000000 in
set_option maxRecDepth 100000 in
theorem c_X1_meet (l : Launch) (g : GG) (o q : Nat) (kp : Nat → Int32) (kc : Nat) (x : Int32) (hkc : kc ≤ 8) : fz_C l g yX1_meet cX1_meet 4 none 1 22 [.ref o, .int x] (KW g o q kp kc) (KW g o q (mtP kp kc x) (mtC kp kc x)) none := by
  refine fz_C.of (by decide) (Nat.le_of_ble_eq_true rfl) ?_
  intro p e s m args below meth c A ls X hW hl
  have hx := X.1
  have hb := X.2.1
  have hl : lv_has ls 4 [(0, .ref o), (1, .int x)] := hl
  have X : fz_X p s m meth c RX1 cX1_meet 4 none g A := X
  have hW : fz_W g A s (KW g o q kp kc) s.heap [] := hW
  have hg7 : mtG kp kc x < 8 := by
    unfold mtG
    split
    · split <;> omega
    · rename_i hne
      rcases plcF_in kp x kc 0 with h | ⟨j, h1, h2, h3⟩
      · exact absurd h hne
      · rw [h3, nI_clamp (by omega)]
        omega
  refine lv_aload_n hx hb dX1_meet_0 rfl (lv_at hl 0 rfl) ?_
  refine lv_iload_n hx hb dX1_meet_1 rfl (lv_at hl 1 rfl) ?_
  refine fz_cVi X hW (c_X1_placeOf l g o q kp kc x hkc) lk_X1_25 (ci := 1) (q0 := 0) rfl rfl rfl rfl ⟨Nat.le_of_ble_eq_true rfl, Nat.le_of_ble_eq_true rfl⟩ hl rfl (Nat.le_of_ble_eq_true rfl) dX1_meet_2 ⟨Nat.le_refl _, Nat.le_refl _⟩ (fun H locs hW => ?_)
  refine lv_istore_n (lv' := [(2, .int (plcF kp x 0 kc)), (0, .ref o), (1, .int x)]) hx hb dX1_meet_5 rfl hl (by decide) rfl (fun ls hl => ?_)
  have join37 : ∀ (z : Int32), z = nI (mtG kp kc x) → ∀ (H : Heap) (locs : List Loc) (ls : Array Slot), fz_W g A s (KW g o q kp (mtC kp kc x)) H locs → lv_has ls 4 [(0, .ref o), (1, .int x), (2, .int z)] → W p l e (fz_R 1 0 0 22) s m args below meth c H locs 0 0 (MQ below (fz_Q g (KW g o q (mtP kp kc x) (mtC kp kc x)) none A) args s 0 0 A) (F0 m 37 ls []) := by
    intro z hz H locs ls hW hl
    subst hz
    refine lv_iload_n hx hb dX1_meet_37 rfl (lv_at hl 2 rfl) ?_
    refine lv_istore_n (lv' := [(3, .int (nI (mtG kp kc x))), (0, .ref o), (1, .int x), (2, .int (nI (mtG kp kc x)))]) hx hb dX1_meet_38 rfl hl (by decide) rfl (fun ls hl => ?_)
    have loop39 : ∀ (k : Nat) (i : Nat), i ≤ mtG kp kc x → i < k → ∀ (H : Heap) (locs : List Loc) (ls : Array Slot), fz_W g A s (KW g o q (shF kp (mtG kp kc x) i) (mtC kp kc x)) H locs → lv_has ls 4 [(0, .ref o), (1, .int x), (3, .int (nI i))] → W p l e (fz_R 1 0 0 22) s m args below meth c H locs 0 0 (MQ below (fz_Q g (KW g o q (mtP kp kc x) (mtC kp kc x)) none A) args s 0 0 A) (F0 m 39 ls []) := by
      intro k
      induction k with
      | zero =>
        intro i hi hk
        omega
      | succ k ih39 =>
        intro i hi hk H locs ls hW hl
        refine lv_iload_n hx hb dX1_meet_39 rfl (lv_at hl 2 rfl) ?_
        refine lv_if_le (tgt := 63) hx hb dX1_meet_40 (by decide) (fun c40 => ?_) (fun c40 => ?_)
        · skip
          have h40 : i = 0 := by
            have := (nI_leI (a := i) (b := 0) (by omega) (by omega)).mp c40
            omega
          subst h40
          refine lv_aload_n hx hb dX1_meet_63 rfl (lv_at hl 0 rfl) ?_
          refine gf_X1_9 X hW 0 rfl rfl dX1_meet_64 ?_
          refine lv_iconst (v := 0) hx hb dX1_meet_67 (by decide) ?_
          refine lv_iload_n hx hb dX1_meet_68 rfl (lv_at hl 1 rfl) ?_
          refine fz_is X hW 1 (0) rfl rfl (by omega) (by decide) dX1_meet_69 (fun H locs hW => ?_)
          exact fz_rv X (fz_cast (rfl) hW) dX1_meet_70
        · skip
          obtain ⟨j, rfl⟩ : ∃ j, i = j + 1 := ⟨i - 1, by
            have h40 : ¬ i ≤ 0 := fun z => c40 ((nI_leI (a := i) (b := 0) (by omega) (by omega)).mpr z)
            omega⟩
          refine lv_aload_n hx hb dX1_meet_43 rfl (lv_at hl 0 rfl) ?_
          refine gf_X1_9 X hW 0 rfl rfl dX1_meet_44 ?_
          refine lv_iload_n hx hb dX1_meet_47 rfl (lv_at hl 2 rfl) ?_
          refine lv_aload_n hx hb dX1_meet_48 rfl (lv_at hl 0 rfl) ?_
          refine gf_X1_9 X hW 0 rfl rfl dX1_meet_49 ?_
          refine lv_iload_n hx hb dX1_meet_52 rfl (lv_at hl 2 rfl) ?_
          refine lv_iconst (v := 1) hx hb dX1_meet_53 (by decide) ?_
          refine lv_isub hx hb dX1_meet_54 ?_
          refine fz_il X hW 1 (j) rfl (by exact pk_sub (a := j + 1) (b := 1) (by omega)) (by omega) (by decide) dX1_meet_55 ?_
          refine fz_is X hW 1 (j + 1) rfl rfl (by omega) (by decide) dX1_meet_56 (fun H locs hW => ?_)
          refine lv_iinc (v := nI j) (lv' := [(3, .int (nI j)), (0, .ref o), (1, .int x)]) hx hb dX1_meet_57 hl (k := 2) rfl (pk_m1 j) (by decide) rfl (fun ls hl => ?_)
          refine lv_goto (tgt := 39) hx hb dX1_meet_60 (by decide) ?_
          exact ih39 j (by omega) (by omega) _ _ _ (fz_cast (congrArg (fun z => KW g o q z (mtC kp kc x)) (shF_s kp (mtG kp kc x) j (by omega))) hW) (lv_sub hl [1, 2, 0] rfl)
    exact loop39 (mtG kp kc x + 1) (mtG kp kc x) (Nat.le_refl _) (Nat.lt_succ_self _) _ _ _ (fz_cast (congrArg (fun z => KW g o q z (mtC kp kc x)) (shF_g kp _).symm) hW) (lv_sub hl [1, 2, 0] rfl)
  refine lv_iload_n hx hb dX1_meet_6 rfl (lv_at hl 0 rfl) ?_
  refine lv_iconst (v := (-1)) hx hb dX1_meet_7 (by decide) ?_
  refine lv_icmp_ne (tgt := 37) hx hb dX1_meet_8 (by decide) (fun c8 => ?_) (fun c8 => ?_)
  · skip
    exact join37 _ (by
      rcases plcF_in kp x kc 0 with h | ⟨j, h1, h2, h3⟩
      · exact absurd h c8
      · unfold mtG
        rw [if_neg c8, h3, nI_clamp (by omega)]) _ _ _ (fz_cast (congrArg (fun z => KW g o q kp z) (by unfold mtC; rw [if_neg c8])) hW) (lv_sub hl [1, 2, 0] rfl)
  · skip
    refine lv_aload_n hx hb dX1_meet_11 rfl (lv_at hl 1 rfl) ?_
    refine gf_X1_15 X hW 0 rfl rfl dX1_meet_12 ?_
    refine lv_bipush (v := 8) hx hb dX1_meet_15 (by decide) ?_
    refine lv_icmp_ge (tgt := 30) hx hb dX1_meet_17 (by decide) (fun c17 => ?_) (fun c17 => ?_)
    · skip
      have h17 : 8 ≤ kc := (nI_leI (a := 8) (b := kc) (by omega) (by omega)).mp c17
      refine lv_aload_n hx hb dX1_meet_30 rfl (lv_at hl 1 rfl) ?_
      refine gf_X1_15 X hW 0 rfl rfl dX1_meet_31 ?_
      refine lv_iconst (v := 1) hx hb dX1_meet_34 (by decide) ?_
      refine lv_isub hx hb dX1_meet_35 ?_
      refine lv_istore_n (lv' := [(2, .int ((nI kc) - 1)), (0, .ref o), (1, .int x)]) hx hb dX1_meet_36 rfl hl (by decide) rfl (fun ls hl => ?_)
      exact join37 _ (by
        unfold mtG
        rw [if_pos c8, if_neg (by omega), show kc = 7 + 1 by omega]
        exact nI_pred 7) _ _ _ (fz_cast (congrArg (fun z => KW g o q kp z) (by unfold mtC; rw [if_pos c8, if_neg (by omega)])) hW) (lv_sub hl [1, 2, 0] rfl)
    · skip
      have h17 : kc < 8 := Nat.not_le.mp (fun z => c17 ((nI_leI (a := 8) (b := kc) (by omega) (by omega)).mpr z))
      refine lv_aload_n hx hb dX1_meet_20 rfl (lv_at hl 1 rfl) ?_
      refine lv_dup hx hb dX1_meet_21 rfl ?_
      refine gf_X1_15 X hW 0 rfl rfl dX1_meet_22 ?_
      refine lv_iconst (v := 1) hx hb dX1_meet_25 (by decide) ?_
      refine lv_iadd hx hb dX1_meet_26 ?_
      refine pf_X1_15 X hW 0 rfl (Nat.le_of_ble_eq_true rfl) dX1_meet_27 (fun H locs hW => ?_)
      refine lv_aload_n hx hb dX1_meet_30 rfl (lv_at hl 1 rfl) ?_
      refine gf_X1_15 X hW 0 rfl rfl dX1_meet_31 ?_
      refine lv_iconst (v := 1) hx hb dX1_meet_34 (by decide) ?_
      refine lv_isub hx hb dX1_meet_35 ?_
      refine lv_istore_n (lv' := [(2, .int (((nI kc) + 1) - 1)), (0, .ref o), (1, .int x)]) hx hb dX1_meet_36 rfl hl (by decide) rfl (fun ls hl => ?_)
      exact join37 _ (by
        unfold mtG
        rw [if_pos c8, if_pos h17, nI_1]
        exact nI_pred kc) _ _ _ (fz_cast (by
        have e : mtC kp kc x = kc + 1 := by unfold mtC; rw [if_pos c8, if_pos h17]
        rw [e]
        exact congrArg (fun z => ([(o, .inr (1, [.ref q, .int z])), (q, .inl (g.2 0, 8, .inl kp))] : va_W)) (nI_1 kc)) hW) (lv_sub hl [1, 2, 0] rfl)
