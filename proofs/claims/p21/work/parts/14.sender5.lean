set_option maxHeartbeats 4000000 in
set_option maxRecDepth 100000 in
theorem c_X2_paint (l : Launch) (g : GG) (a : Nat → Nat) (v : SV) (x y wd hg : Nat) (pic : Int32) (h1 : x + wd ≤ 8) (h2 : y + hg ≤ 6) : fz_C l g yX2_paint cX2_paint 8 none 1 32 [.ref (a 0), .int (nI x), .int (nI y), .int (nI wd), .int (nI hg), .int pic] (SW g a v) (SW g a (paV v x y wd hg pic)) none := by
  refine fz_C.of (by decide) (Nat.le_of_ble_eq_true rfl) ?_
  intro p e s m args below meth c A ls X hW hl
  have hx := X.1
  have hb := X.2.1
  have hl : lv_has ls 8 [(0, .ref (a 0)), (1, .int (nI x)), (2, .int (nI y)), (3, .int (nI wd)), (4, .int (nI hg)), (5, .int pic)] := hl
  have X : fz_X p s m meth c RX2 cX2_paint 8 none g A := X
  have hW : fz_W g A s (SW g a v) s.heap [] := hW
  refine lv_aload_n hx hb dX2_paint_0 rfl (lv_at hl 0 rfl) ?_
  refine gf_X2_9 X hW 0 rfl rfl dX2_paint_1 ?_
  refine lv_iconst (v := 0) hx hb dX2_paint_4 (by decide) ?_
  refine lv_aload_n hx hb dX2_paint_5 rfl (lv_at hl 0 rfl) ?_
  refine gf_X2_30 X hW 0 rfl rfl dX2_paint_6 ?_
  refine lv_iconst (v := 0) hx hb dX2_paint_9 (by decide) ?_
  refine lv_bipush (v := 48) hx hb dX2_paint_10 (by decide) ?_
  refine fz_ac_X2 X hW hl 1 7 rfl rfl 48 (by decide) (by decide) (by decide) rfl (Nat.le_of_ble_eq_true rfl) (Nat.le_of_ble_eq_true rfl) dX2_paint_12 (fun H locs hW => ?_)
  refine lv_iload_n hx hb dX2_paint_15 rfl (lv_at hl 2 rfl) ?_
  refine lv_istore (lv' := [(6, .int (nI y)), (0, .ref (a 0)), (1, .int (nI x)), (2, .int (nI y)), (3, .int (nI wd)), (4, .int (nI hg)), (5, .int pic)]) hx hb dX2_paint_16 hl (by decide) rfl (fun ls hl => ?_)
  have loop18 : ∀ (k : Nat) (i : Nat), i ≤ hg → hg < i + k → ∀ (H : Heap) (locs : List Loc) (ls : Array Slot), fz_W g A s (SW g a (nbV v (paR pic x y wd v.near i) (fz_to v.near v.before 48))) H locs → lv_has ls 8 [(0, .ref (a 0)), (1, .int (nI x)), (2, .int (nI y)), (3, .int (nI wd)), (4, .int (nI hg)), (5, .int pic), (6, .int (nI (y + i)))] → W p l e (fz_R 1 0 0 32) s m args below meth c H locs 0 0 (MQ below (fz_Q g (SW g a (paV v x y wd hg pic)) none A) args s 0 0 A) (F0 m 18 ls []) := by
    intro k
    induction k with
    | zero =>
      intro i hi hk
      omega
    | succ k ih18 =>
      intro i hi hk H locs ls hW hl
      refine lv_iload hx hb dX2_paint_18 (lv_at hl 6 rfl) ?_
      refine lv_iload_n hx hb dX2_paint_20 rfl (lv_at hl 2 rfl) ?_
      refine lv_iload hx hb dX2_paint_21 (lv_at hl 4 rfl) ?_
      refine lv_iadd hx hb dX2_paint_23 ?_
      refine lv_icmp_ge (tgt := 64) hx hb dX2_paint_24 (by decide) (fun c24 => ?_) (fun c24 => ?_)
      · skip
        rw [nI_add] at c24
        have h24 : y + hg ≤ (y + i) := (nI_leI (a := y + hg) (b := (y + i)) (by omega) (by omega)).mp c24
        have e24 : i = hg := by omega
        have hl := lv_sub hl [0, 1, 2, 3, 4, 5] rfl
        have hl : lv_has ls 8 [(0, .ref (a 0)), (1, .int (nI x)), (2, .int (nI y)), (3, .int (nI wd)), (4, .int (nI hg)), (5, .int pic)] := hl
        refine lv_aload_n hx hb dX2_paint_64 rfl (lv_at hl 0 rfl) ?_
        refine fz_cVv X hW (c_X2_noteChanges l g a (nbV v (paR pic x y wd v.near i) (fz_to v.near v.before 48))) lk_X2_80 (ci := 2) (q0 := 0) rfl rfl rfl rfl ⟨Nat.le_of_ble_eq_true rfl, Nat.le_of_ble_eq_true rfl⟩ hl rfl (Nat.le_of_ble_eq_true rfl) dX2_paint_65 ⟨Nat.le_refl _, Nat.le_refl _⟩ (fun H locs hW => ?_)
        refine lv_aload_n hx hb dX2_paint_68 rfl (lv_at hl 0 rfl) ?_
        refine fz_cVv X hW (c_X2_noteUnlike l g a (ncV (nbV v (paR pic x y wd v.near i) (fz_to v.near v.before 48)))) lk_X2_83 (ci := 2) (q0 := 0) rfl rfl rfl rfl ⟨Nat.le_of_ble_eq_true rfl, Nat.le_of_ble_eq_true rfl⟩ hl rfl (Nat.le_of_ble_eq_true rfl) dX2_paint_69 ⟨Nat.le_refl _, Nat.le_refl _⟩ (fun H locs hW => ?_)
        exact fz_rv X (fz_cast (by rw [e24]; rfl) hW) dX2_paint_72
      · skip
        rw [nI_add] at c24
        have h24 : (y + i) < y + hg := Nat.not_le.mp (fun z => c24 ((nI_leI (a := y + hg) (b := (y + i)) (by omega) (by omega)).mpr z))
        refine lv_iload_n hx hb dX2_paint_27 rfl (lv_at hl 1 rfl) ?_
        refine lv_istore (lv' := [(7, .int (nI x)), (0, .ref (a 0)), (1, .int (nI x)), (2, .int (nI y)), (3, .int (nI wd)), (4, .int (nI hg)), (5, .int pic), (6, .int (nI (y + i)))]) hx hb dX2_paint_28 hl (by decide) rfl (fun ls hl => ?_)
        have loop30 : ∀ (k : Nat) (j : Nat), j ≤ wd → wd < j + k → ∀ (H : Heap) (locs : List Loc) (ls : Array Slot), fz_W g A s (SW g a (nbV v (paC pic x (y + i) (paR pic x y wd v.near i) j) (fz_to v.near v.before 48))) H locs → lv_has ls 8 [(0, .ref (a 0)), (1, .int (nI x)), (2, .int (nI y)), (3, .int (nI wd)), (4, .int (nI hg)), (5, .int pic), (6, .int (nI (y + i))), (7, .int (nI (x + j)))] → W p l e (fz_R 1 0 0 32) s m args below meth c H locs 0 0 (MQ below (fz_Q g (SW g a (paV v x y wd hg pic)) none A) args s 0 0 A) (F0 m 30 ls []) := by
          intro k
          induction k with
          | zero =>
            intro j hj hk
            omega
          | succ k ih30 =>
            intro j hj hkj H locs ls hW hl
            refine lv_iload hx hb dX2_paint_30 (lv_at hl 7 rfl) ?_
            refine lv_iload_n hx hb dX2_paint_32 rfl (lv_at hl 1 rfl) ?_
            refine lv_iload_n hx hb dX2_paint_33 rfl (lv_at hl 3 rfl) ?_
            refine lv_iadd hx hb dX2_paint_34 ?_
            refine lv_icmp_ge (tgt := 58) hx hb dX2_paint_35 (by decide) (fun c35 => ?_) (fun c35 => ?_)
            · skip
              rw [nI_add] at c35
              have h35 : x + wd ≤ (x + j) := (nI_leI (a := x + wd) (b := (x + j)) (by omega) (by omega)).mp c35
              have e35 : j = wd := by omega
              have hl := lv_sub hl [0, 1, 2, 3, 4, 5, 6] rfl
              have hl : lv_has ls 8 [(0, .ref (a 0)), (1, .int (nI x)), (2, .int (nI y)), (3, .int (nI wd)), (4, .int (nI hg)), (5, .int pic), (6, .int (nI (y + i)))] := hl
              refine lv_iinc (v := nI ((y + i) + 1)) (lv' := [(6, .int (nI ((y + i) + 1))), (0, .ref (a 0)), (1, .int (nI x)), (2, .int (nI y)), (3, .int (nI wd)), (4, .int (nI hg)), (5, .int pic)]) hx hb dX2_paint_58 hl (k := 6) rfl (nI_1 _) (by decide) rfl (fun ls hl => ?_)
              refine lv_goto (tgt := 18) hx hb dX2_paint_61 (by decide) ?_
              exact ih18 (i + 1) (by omega) (by omega) _ _ _ (fz_cast (by rw [e35]; rfl) hW) (lv_sub hl [1, 2, 3, 4, 5, 6, 0] rfl)
            · skip
              rw [nI_add] at c35
              have h35 : (x + j) < x + wd := Nat.not_le.mp (fun z => c35 ((nI_leI (a := x + wd) (b := (x + j)) (by omega) (by omega)).mpr z))
              refine lv_aload_n hx hb dX2_paint_38 rfl (lv_at hl 0 rfl) ?_
              refine gf_X2_9 X hW 0 rfl rfl dX2_paint_39 ?_
              refine lv_iload hx hb dX2_paint_42 (lv_at hl 7 rfl) ?_
              refine lv_iload hx hb dX2_paint_44 (lv_at hl 6 rfl) ?_
              refine fz_cNi X hW (c_X3_tileAt l g _ _ _) lk_X2_76 rfl ⟨Nat.le_of_ble_eq_true rfl, Nat.le_of_ble_eq_true rfl⟩ hl rfl (Nat.le_of_ble_eq_true rfl) dX2_paint_46 ⟨Nat.le_refl _, Nat.le_refl _⟩ (fun H locs hW => ?_)
              refine lv_iload hx hb dX2_paint_49 (lv_at hl 5 rfl) ?_
              refine fz_is X hW 1 (8 * (y + i) + (x + j)) rfl (fz_tl _ _) (by omega) (by decide) dX2_paint_51 (fun H locs hW => ?_)
              refine lv_iinc (v := nI ((x + j) + 1)) (lv' := [(7, .int (nI ((x + j) + 1))), (0, .ref (a 0)), (1, .int (nI x)), (2, .int (nI y)), (3, .int (nI wd)), (4, .int (nI hg)), (5, .int pic), (6, .int (nI (y + i)))]) hx hb dX2_paint_52 hl (k := 7) rfl (nI_1 _) (by decide) rfl (fun ls hl => ?_)
              refine lv_goto (tgt := 30) hx hb dX2_paint_55 (by decide) ?_
              exact ih30 (j + 1) (by omega) (by omega) _ _ _ (fz_cast (rfl) hW) (lv_sub hl [1, 2, 3, 4, 5, 6, 7, 0] rfl)
        exact loop30 (wd + 1) 0 (by omega) (by omega) _ _ _ (fz_cast (rfl) hW) (lv_sub hl [1, 2, 3, 4, 5, 6, 7, 0] rfl)
  exact loop18 (hg + 1) 0 (by omega) (by omega) _ _ _ (fz_cast (rfl) hW) (lv_sub hl [1, 2, 3, 4, 5, 6, 0] rfl)
set_option maxHeartbeats 4000000 in
set_option maxRecDepth 100000 in
theorem c_X2_shift (l : Launch) (g : GG) (a : Nat → Nat) (v : SV) (h : Nat → Nat) (hm : MOK h) (hwm : v.wm ≤ 4) : fz_C l g yX2_shift cX2_shift 8 none 2 56 [.ref (a 0), .int (nI (h 0)), .int (nI (h 1)), .int (nI (h 2)), .int (nI (h 3)), .int (nI (h 4)), .int (nI (h 5))] (SW g a v) (SW g a (shV v h)) none := by
  refine fz_C.of (by decide) (Nat.le_of_ble_eq_true rfl) ?_
  intro p e s m args below meth c A ls X hW hl
  have hx := X.1
  have hb := X.2.1
  have hl : lv_has ls 8 [(0, .ref (a 0)), (1, .int (nI (h 0))), (2, .int (nI (h 1))), (3, .int (nI (h 2))), (4, .int (nI (h 3))), (5, .int (nI (h 4))), (6, .int (nI (h 5)))] := hl
  have X : fz_X p s m meth c RX2 cX2_shift 8 none g A := X
  have hW : fz_W g A s (SW g a v) s.heap [] := hW
  refine lv_aload_n hx hb dX2_shift_0 rfl (lv_at hl 0 rfl) ?_
  refine gf_X2_35 X hW 0 rfl rfl dX2_shift_1 ?_
  refine lv_aload_n hx hb dX2_shift_4 rfl (lv_at hl 0 rfl) ?_
  refine gf_X2_39 X hW 0 rfl rfl dX2_shift_5 ?_
  refine fz_ql X hW 8 (v.wm) rfl rfl (by omega) (by decide) (if_pos (by omega)) dX2_shift_8 ?_
  refine lv_astore (lv' := [(7, .ref (a (12 + v.wm))), (0, .ref (a 0)), (1, .int (nI (h 0))), (2, .int (nI (h 1))), (3, .int (nI (h 2))), (4, .int (nI (h 3))), (5, .int (nI (h 4))), (6, .int (nI (h 5)))]) hx hb dX2_shift_9 hl (by decide) rfl (fun ls hl => ?_)
  refine lv_aload hx hb dX2_shift_11 (lv_at hl 0 rfl) ?_
  refine lv_iload_n hx hb dX2_shift_13 rfl (lv_at hl 2 rfl) ?_
  refine lv_iload_n hx hb dX2_shift_14 rfl (lv_at hl 3 rfl) ?_
  refine lv_iload_n hx hb dX2_shift_15 rfl (lv_at hl 4 rfl) ?_
  refine lv_iload hx hb dX2_shift_16 (lv_at hl 5 rfl) ?_
  refine lv_iload hx hb dX2_shift_18 (lv_at hl 6 rfl) ?_
  refine lv_iload hx hb dX2_shift_20 (lv_at hl 7 rfl) ?_
  refine fz_cVv X hW (cs_set l g a v v.wm (by omega) h) lk_X2_86 (ci := 0) (q0 := 12 + v.wm) rfl rfl (SW_bm _ _ _ _ (by omega)) rfl ⟨Nat.le_of_ble_eq_true rfl, Nat.le_of_ble_eq_true rfl⟩ hl rfl (Nat.le_of_ble_eq_true rfl) dX2_shift_22 ⟨Nat.le_refl _, Nat.le_refl _⟩ (fun H locs hW => ?_)
  refine lv_aload hx hb dX2_shift_25 (lv_at hl 0 rfl) ?_
  refine lv_aload_n hx hb dX2_shift_27 rfl (lv_at hl 1 rfl) ?_
  refine gf_X2_9 X hW 0 rfl rfl dX2_shift_28 ?_
  refine lv_aload_n hx hb dX2_shift_31 rfl (lv_at hl 1 rfl) ?_
  refine gf_X2_30 X hW 0 rfl rfl dX2_shift_32 ?_
  refine fz_cVv X hW (cs_apNear l g a (v.mvS (mvU v.mv v.wm h)) v.wm (by omega) (by show MOK (mvU v.mv v.wm h v.wm); rw [mvU_i]; exact hm)) lk_X2_90 (ci := 0) (q0 := 12 + v.wm) rfl rfl (SW_bm _ _ _ _ (by omega)) rfl ⟨Nat.le_of_ble_eq_true rfl, Nat.le_of_ble_eq_true rfl⟩ hl rfl (Nat.le_of_ble_eq_true rfl) dX2_shift_35 ⟨Nat.le_refl _, Nat.le_refl _⟩ (fun H locs hW => ?_)
  have join56 : ∀ (n : Nat), n = (if v.wm < 4 then v.wm + 1 else v.wm) → ∀ (H : Heap) (locs : List Loc) (ls : Array Slot), fz_W g A s (SW g a ((shA v h).wmS n)) H locs → lv_has ls 8 [(0, .ref (a 0))] → W p l e (fz_R 2 0 0 56) s m args below meth c H locs 0 0 (MQ below (fz_Q g (SW g a (shV v h)) none A) args s 0 0 A) (F0 m 56 ls []) := by
    intro n hn H locs ls hW hl
    refine lv_aload_n hx hb dX2_shift_56 rfl (lv_at hl 0 rfl) ?_
    refine fz_cVv X hW (c_X2_noteChanges l g a ((shA v h).wmS n)) lk_X2_80 (ci := 2) (q0 := 0) rfl rfl rfl rfl ⟨Nat.le_of_ble_eq_true rfl, Nat.le_of_ble_eq_true rfl⟩ hl rfl (Nat.le_of_ble_eq_true rfl) dX2_shift_57 ⟨Nat.le_refl _, Nat.le_refl _⟩ (fun H locs hW => ?_)
    refine lv_aload_n hx hb dX2_shift_60 rfl (lv_at hl 0 rfl) ?_
    refine fz_cVv X hW (c_X2_noteUnlike l g a (ncV ((shA v h).wmS n))) lk_X2_83 (ci := 2) (q0 := 0) rfl rfl rfl rfl ⟨Nat.le_of_ble_eq_true rfl, Nat.le_of_ble_eq_true rfl⟩ hl rfl (Nat.le_of_ble_eq_true rfl) dX2_shift_61 ⟨Nat.le_refl _, Nat.le_refl _⟩ (fun H locs hW => ?_)
    exact fz_rv X (fz_cast (by rw [hn]; rfl) hW) dX2_shift_64
  refine lv_aload_n hx hb dX2_shift_38 rfl (lv_at hl 1 rfl) ?_
  refine gf_X2_39 X hW 0 rfl rfl dX2_shift_39 ?_
  refine lv_iconst (v := 4) hx hb dX2_shift_42 (by decide) ?_
  refine lv_icmp_ge (tgt := 56) hx hb dX2_shift_43 (by decide) (fun c43 => ?_) (fun c43 => ?_)
  · skip
    have h43 : 4 ≤ v.wm := (nI_leI (a := 4) (b := v.wm) (by omega) (by omega)).mp c43
    exact join56 v.wm (if_neg (by omega)).symm _ _ _ (fz_cast (rfl) hW) (lv_sub hl [1] rfl)
  · skip
    have h43 : v.wm < 4 := Nat.not_le.mp (fun z => c43 ((nI_leI (a := 4) (b := v.wm) (by omega) (by omega)).mpr z))
    refine lv_aload_n hx hb dX2_shift_46 rfl (lv_at hl 1 rfl) ?_
    refine lv_dup hx hb dX2_shift_47 rfl ?_
    refine gf_X2_39 X hW 0 rfl rfl dX2_shift_48 ?_
    refine lv_iconst (v := 1) hx hb dX2_shift_51 (by decide) ?_
    refine lv_iadd hx hb dX2_shift_52 ?_
    refine fz_top (x' := nI (v.wm + 1)) (nI_1 _) ?_
    refine pf_X2_39 X hW 0 rfl (Nat.le_of_ble_eq_true rfl) dX2_shift_53 (fun H locs hW => ?_)
    exact join56 (v.wm + 1) (if_pos h43).symm _ _ _ (fz_cast (rfl) hW) (lv_sub hl [1] rfl)
set_option maxHeartbeats 4000000 in
set_option maxRecDepth 100000 in
theorem c_X2_copyFrom (l : Launch) (g : GG) (a b : Nat → Nat) (v u : SV) (hu : u.wm ≤ 4) : fz_C l g yX2_copyFrom cX2_copyFrom 3 none 2 53 [.ref (a 0), .ref (b 0)] (SW g a v ++ SW g b u) (SW g a (coV v u) ++ SW g b u) none := by
  refine fz_C.of (by decide) (Nat.le_of_ble_eq_true rfl) ?_
  intro p e s m args below meth c A ls X hW hl
  have hx := X.1
  have hb := X.2.1
  have hl : lv_has ls 3 [(0, .ref (a 0)), (1, .ref (b 0))] := hl
  have X : fz_X p s m meth c RX2 cX2_copyFrom 3 none g A := X
  have hW : fz_W g A s (SW g a v ++ SW g b u) s.heap [] := hW
  refine lv_aload_n hx hb dX2_copyFrom_0 rfl (lv_at hl 1 rfl) ?_
  refine gf_X2_9 X hW 17 rfl rfl dX2_copyFrom_1 ?_
  refine lv_iconst (v := 0) hx hb dX2_copyFrom_4 (by decide) ?_
  refine lv_aload_n hx hb dX2_copyFrom_5 rfl (lv_at hl 0 rfl) ?_
  refine gf_X2_9 X hW 0 rfl rfl dX2_copyFrom_6 ?_
  refine lv_iconst (v := 0) hx hb dX2_copyFrom_9 (by decide) ?_
  refine lv_bipush (v := 48) hx hb dX2_copyFrom_10 (by decide) ?_
  refine fz_ac_X2 X hW hl 18 1 rfl rfl 48 (by decide) (by decide) (by decide) rfl (Nat.le_of_ble_eq_true rfl) (Nat.le_of_ble_eq_true rfl) dX2_copyFrom_12 (fun H locs hW => ?_)
  refine lv_aload_n hx hb dX2_copyFrom_15 rfl (lv_at hl 1 rfl) ?_
  refine gf_X2_15 X hW 17 rfl rfl dX2_copyFrom_16 ?_
  refine lv_iconst (v := 0) hx hb dX2_copyFrom_19 (by decide) ?_
  refine lv_aload_n hx hb dX2_copyFrom_20 rfl (lv_at hl 0 rfl) ?_
  refine gf_X2_15 X hW 0 rfl rfl dX2_copyFrom_21 ?_
  refine lv_iconst (v := 0) hx hb dX2_copyFrom_24 (by decide) ?_
  refine lv_bipush (v := 48) hx hb dX2_copyFrom_25 (by decide) ?_
  refine fz_ac_X2 X hW hl 19 2 rfl rfl 48 (by decide) (by decide) (by decide) rfl (Nat.le_of_ble_eq_true rfl) (Nat.le_of_ble_eq_true rfl) dX2_copyFrom_27 (fun H locs hW => ?_)
  refine lv_aload_n hx hb dX2_copyFrom_30 rfl (lv_at hl 1 rfl) ?_
  refine gf_X2_18 X hW 17 rfl rfl dX2_copyFrom_31 ?_
  refine lv_iconst (v := 0) hx hb dX2_copyFrom_34 (by decide) ?_
  refine lv_aload_n hx hb dX2_copyFrom_35 rfl (lv_at hl 0 rfl) ?_
  refine gf_X2_18 X hW 0 rfl rfl dX2_copyFrom_36 ?_
  refine lv_iconst (v := 0) hx hb dX2_copyFrom_39 (by decide) ?_
  refine lv_bipush (v := 48) hx hb dX2_copyFrom_40 (by decide) ?_
  refine fz_ac_X2 X hW hl 20 3 rfl rfl 48 (by decide) (by decide) (by decide) rfl (Nat.le_of_ble_eq_true rfl) (Nat.le_of_ble_eq_true rfl) dX2_copyFrom_42 (fun H locs hW => ?_)
  refine lv_aload_n hx hb dX2_copyFrom_45 rfl (lv_at hl 1 rfl) ?_
  refine gf_X2_21 X hW 17 rfl rfl dX2_copyFrom_46 ?_
  refine lv_iconst (v := 0) hx hb dX2_copyFrom_49 (by decide) ?_
  refine lv_aload_n hx hb dX2_copyFrom_50 rfl (lv_at hl 0 rfl) ?_
  refine gf_X2_21 X hW 0 rfl rfl dX2_copyFrom_51 ?_
  refine lv_iconst (v := 0) hx hb dX2_copyFrom_54 (by decide) ?_
  refine lv_bipush (v := 48) hx hb dX2_copyFrom_55 (by decide) ?_
  refine fz_ac_X2 X hW hl 21 4 rfl rfl 48 (by decide) (by decide) (by decide) rfl (Nat.le_of_ble_eq_true rfl) (Nat.le_of_ble_eq_true rfl) dX2_copyFrom_57 (fun H locs hW => ?_)
  refine lv_aload_n hx hb dX2_copyFrom_60 rfl (lv_at hl 0 rfl) ?_
  refine lv_aload_n hx hb dX2_copyFrom_61 rfl (lv_at hl 1 rfl) ?_
  refine gf_X2_39 X hW 17 rfl rfl dX2_copyFrom_62 ?_
  refine pf_X2_39 X hW 0 rfl (Nat.le_of_ble_eq_true rfl) dX2_copyFrom_65 (fun H locs hW => ?_)
  refine lv_iconst (v := 0) hx hb dX2_copyFrom_68 (by decide) ?_
  refine lv_istore_n (lv' := [(2, .int 0), (0, .ref (a 0)), (1, .ref (b 0))]) hx hb dX2_copyFrom_69 rfl hl (by decide) rfl (fun ls hl => ?_)
  have loop70 : ∀ (k : Nat) (i : Nat), i ≤ u.wm → u.wm < i + k → ∀ (H : Heap) (locs : List Loc) (ls : Array Slot), fz_W g A s (SW g a (c1V v u (cmF u.mv v.mv i)) ++ SW g b u) H locs → lv_has ls 3 [(0, .ref (a 0)), (1, .ref (b 0)), (2, .int (nI i))] → W p l e (fz_R 2 0 0 53) s m args below meth c H locs 0 0 (MQ below (fz_Q g (SW g a (coV v u) ++ SW g b u) none A) args s 0 0 A) (F0 m 70 ls []) := by
    intro k
    induction k with
    | zero =>
      intro i hi hk
      omega
    | succ k ih70 =>
      intro i hi hk H locs ls hW hl
      refine lv_iload_n hx hb dX2_copyFrom_70 rfl (lv_at hl 2 rfl) ?_
      refine lv_aload_n hx hb dX2_copyFrom_71 rfl (lv_at hl 0 rfl) ?_
      refine gf_X2_39 X hW 0 rfl rfl dX2_copyFrom_72 ?_
      refine lv_icmp_ge (tgt := 99) hx hb dX2_copyFrom_75 (by decide) (fun c75 => ?_) (fun c75 => ?_)
      · skip
        have h75 : u.wm ≤ i := (nI_leI (a := u.wm) (b := i) (by omega) (by omega)).mp c75
        have e75 : i = u.wm := by omega
        have hl := lv_sub hl [0, 1] rfl
        have hl : lv_has ls 3 [(0, .ref (a 0)), (1, .ref (b 0))] := hl
        refine lv_aload_n hx hb dX2_copyFrom_99 rfl (lv_at hl 0 rfl) ?_
        refine gf_X2_46 X hW 0 rfl rfl dX2_copyFrom_100 ?_
        refine lv_aload_n hx hb dX2_copyFrom_103 rfl (lv_at hl 1 rfl) ?_
        refine gf_X2_46 X hW 17 rfl rfl dX2_copyFrom_104 ?_
        refine fz_cVv X hW (cs_kc2 l g a b (c1V v u (cmF u.mv v.mv i)) u) lk_X2_73 (ci := 1) (q0 := 9) rfl rfl rfl rfl ⟨Nat.le_of_ble_eq_true rfl, Nat.le_of_ble_eq_true rfl⟩ hl rfl (Nat.le_of_ble_eq_true rfl) dX2_copyFrom_107 ⟨Nat.le_refl _, Nat.le_refl _⟩ (fun H locs hW => ?_)
        refine lv_aload_n hx hb dX2_copyFrom_110 rfl (lv_at hl 1 rfl) ?_
        refine gf_X2_50 X hW 17 rfl rfl dX2_copyFrom_111 ?_
        refine lv_iconst (v := 0) hx hb dX2_copyFrom_114 (by decide) ?_
        refine lv_aload_n hx hb dX2_copyFrom_115 rfl (lv_at hl 0 rfl) ?_
        refine gf_X2_50 X hW 0 rfl rfl dX2_copyFrom_116 ?_
        refine lv_iconst (v := 0) hx hb dX2_copyFrom_119 (by decide) ?_
        refine lv_iconst (v := 4) hx hb dX2_copyFrom_120 (by decide) ?_
        refine fz_ac_X2 X hW hl 28 11 rfl rfl 4 (by decide) (by decide) (by decide) rfl (Nat.le_of_ble_eq_true rfl) (Nat.le_of_ble_eq_true rfl) dX2_copyFrom_121 (fun H locs hW => ?_)
        refine lv_aload_n hx hb dX2_copyFrom_124 rfl (lv_at hl 0 rfl) ?_
        refine lv_aload_n hx hb dX2_copyFrom_125 rfl (lv_at hl 1 rfl) ?_
        refine gf_X2_53 X hW 17 rfl rfl dX2_copyFrom_126 ?_
        refine pf_X2_53 X hW 0 rfl (Nat.le_of_ble_eq_true rfl) dX2_copyFrom_129 (fun H locs hW => ?_)
        refine lv_aload_n hx hb dX2_copyFrom_132 rfl (lv_at hl 0 rfl) ?_
        refine lv_aload_n hx hb dX2_copyFrom_133 rfl (lv_at hl 1 rfl) ?_
        refine gf_X2_56 X hW 17 rfl rfl dX2_copyFrom_134 ?_
        refine pf_X2_56 X hW 0 rfl (Nat.le_of_ble_eq_true rfl) dX2_copyFrom_137 (fun H locs hW => ?_)
        refine lv_aload_n hx hb dX2_copyFrom_140 rfl (lv_at hl 0 rfl) ?_
        refine lv_aload_n hx hb dX2_copyFrom_141 rfl (lv_at hl 1 rfl) ?_
        refine gf_X2_59 X hW 17 rfl rfl dX2_copyFrom_142 ?_
        refine pf_X2_59 X hW 0 rfl (Nat.le_of_ble_eq_true rfl) dX2_copyFrom_145 (fun H locs hW => ?_)
        exact fz_rv X (fz_cast (by rw [e75]; rfl) hW) dX2_copyFrom_148
      · skip
        have h75 : i < u.wm := Nat.not_le.mp (fun z => c75 ((nI_leI (a := u.wm) (b := i) (by omega) (by omega)).mpr z))
        refine lv_aload_n hx hb dX2_copyFrom_78 rfl (lv_at hl 0 rfl) ?_
        refine gf_X2_35 X hW 0 rfl rfl dX2_copyFrom_79 ?_
        refine lv_iload_n hx hb dX2_copyFrom_82 rfl (lv_at hl 2 rfl) ?_
        refine fz_ql X hW 8 (i) rfl rfl (by omega) (by decide) (if_pos (by omega)) dX2_copyFrom_83 ?_
        refine lv_aload_n hx hb dX2_copyFrom_84 rfl (lv_at hl 1 rfl) ?_
        refine gf_X2_35 X hW 17 rfl rfl dX2_copyFrom_85 ?_
        refine lv_iload_n hx hb dX2_copyFrom_88 rfl (lv_at hl 2 rfl) ?_
        refine fz_ql X hW 25 (i) rfl rfl (by omega) (by decide) (if_pos (by omega)) dX2_copyFrom_89 ?_
        refine fz_cVv X hW (cs_cp2 l g a b (c1V v u (cmF u.mv v.mv i)) u i (by omega)) lk_X2_69 (ci := 0) (q0 := 12 + i) rfl rfl (SW_bm2 _ _ _ _ _ _ (by omega)) rfl ⟨Nat.le_of_ble_eq_true rfl, Nat.le_of_ble_eq_true rfl⟩ hl rfl (Nat.le_of_ble_eq_true rfl) dX2_copyFrom_90 ⟨Nat.le_refl _, Nat.le_refl _⟩ (fun H locs hW => ?_)
        refine lv_iinc (v := nI (i + 1)) (lv' := [(2, .int (nI (i + 1))), (0, .ref (a 0)), (1, .ref (b 0))]) hx hb dX2_copyFrom_93 hl (k := 2) rfl (nI_1 _) (by decide) rfl (fun ls hl => ?_)
        refine lv_goto (tgt := 70) hx hb dX2_copyFrom_96 (by decide) ?_
        exact ih70 (i + 1) (by omega) (by omega) _ _ _ (fz_cast (congrArg (fun z => SW g a (c1V v u z) ++ SW g b u) (cmF_s u.mv v.mv i)) hW) (lv_sub hl [1, 2, 0] rfl)
  exact loop70 (u.wm + 1) 0 (by omega) (by omega) _ _ _ (fz_cast (congrArg (fun z => SW g a (c1V v u z) ++ SW g b u) (cmF_0 u.mv v.mv).symm) hW) (lv_sub hl [1, 2, 0] rfl)
