set_option maxHeartbeats 4000000 in
set_option maxRecDepth 100000 in
theorem c_X2_sendPicture (l : Launch) (g : GG) (a : Nat → Nat) (v : SV) (t w : Nat) (x left : Int32) (ht : t < 48) (hw : w < 4) (hkc : v.kc ≤ 8) : fz_C l g yX2_sendPicture cX2_sendPicture 5 (some .int) 2 45 [.ref (a 0), .int (nI t), .int (nI w), .int x, .int left] (SW g a v) (SW g a (spR v t w x left).2) (some (.int (spR v t w x left).1)) := by
  refine fz_C.of (by decide) (Nat.le_of_ble_eq_true rfl) ?_
  intro p e s m args below meth c A ls X hW hl
  have hx := X.1
  have hb := X.2.1
  have hl : lv_has ls 5 [(0, .ref (a 0)), (1, .int (nI t)), (2, .int (nI w)), (3, .int x), (4, .int left)] := hl
  have X : fz_X p s m meth c RX2 cX2_sendPicture 5 (some .int) g A := X
  have hW : fz_W g A s (SW g a v) s.heap [] := hW
  refine lv_iload_n hx hb dX2_sendPicture_0 rfl (lv_at hl 3 rfl) ?_
  refine lv_iload hx hb dX2_sendPicture_1 (lv_at hl 4 rfl) ?_
  refine lv_icmp_le (tgt := 8) hx hb dX2_sendPicture_3 (by decide) (fun c3 => ?_) (fun c3 => ?_)
  · skip
    have h3 : ¬ left < x := Int32.not_lt.mpr c3
    refine lv_aload_n hx hb dX2_sendPicture_8 rfl (lv_at hl 0 rfl) ?_
    refine gf_X2_15 X hW 0 rfl rfl dX2_sendPicture_9 ?_
    refine lv_iload_n hx hb dX2_sendPicture_12 rfl (lv_at hl 1 rfl) ?_
    refine lv_aload_n hx hb dX2_sendPicture_13 rfl (lv_at hl 0 rfl) ?_
    refine gf_X2_9 X hW 0 rfl rfl dX2_sendPicture_14 ?_
    refine lv_iload_n hx hb dX2_sendPicture_17 rfl (lv_at hl 1 rfl) ?_
    refine fz_il X hW 1 (t) rfl rfl (by omega) (by decide) dX2_sendPicture_18 ?_
    refine fz_is X hW 2 (t) rfl rfl (by omega) (by decide) dX2_sendPicture_19 (fun H locs hW => ?_)
    refine lv_aload_n hx hb dX2_sendPicture_20 rfl (lv_at hl 0 rfl) ?_
    refine gf_X2_18 X hW 0 rfl rfl dX2_sendPicture_21 ?_
    refine lv_iload_n hx hb dX2_sendPicture_24 rfl (lv_at hl 1 rfl) ?_
    refine lv_iconst (v := (-1)) hx hb dX2_sendPicture_25 (by decide) ?_
    refine fz_is X hW 3 (t) rfl rfl (by omega) (by decide) dX2_sendPicture_26 (fun H locs hW => ?_)
    have hW : fz_W g A s (SW g a (SV.mk9 v.near (upd v.far t (v.near t)) (upd v.since t (-1)) v.ch v.worths v.order v.before v.mv v.wm v.kp v.kc v.sc v.us v.now v.la)) H locs := hW
    refine lv_aload_n hx hb dX2_sendPicture_27 rfl (lv_at hl 0 rfl) ?_
    refine gf_X2_46 X hW 0 rfl rfl dX2_sendPicture_28 ?_
    refine lv_aload_n hx hb dX2_sendPicture_31 rfl (lv_at hl 0 rfl) ?_
    refine gf_X2_9 X hW 0 rfl rfl dX2_sendPicture_32 ?_
    refine lv_iload_n hx hb dX2_sendPicture_35 rfl (lv_at hl 1 rfl) ?_
    refine fz_il X hW 1 (t) rfl rfl (by omega) (by decide) dX2_sendPicture_36 ?_
    refine fz_cVv X hW (cs_meet l g a (SV.mk9 v.near (upd v.far t (v.near t)) (upd v.since t (-1)) v.ch v.worths v.order v.before v.mv v.wm v.kp v.kc v.sc v.us v.now v.la) (v.near t) hkc) lk_X2_161 (ci := 1) (q0 := 9) rfl rfl rfl rfl ⟨Nat.le_of_ble_eq_true rfl, Nat.le_of_ble_eq_true rfl⟩ hl rfl (Nat.le_of_ble_eq_true rfl) dX2_sendPicture_37 ⟨Nat.le_refl _, Nat.le_refl _⟩ (fun H locs hW => ?_)
    have hW : fz_W g A s (SW g a (SV.mk9 v.near (upd v.far t (v.near t)) (upd v.since t (-1)) v.ch v.worths v.order v.before v.mv v.wm (mtP v.kp v.kc (v.near t)) (mtC v.kp v.kc (v.near t)) v.sc v.us v.now v.la)) H locs := hW
    refine lv_aload_n hx hb dX2_sendPicture_40 rfl (lv_at hl 0 rfl) ?_
    refine gf_X2_50 X hW 0 rfl rfl dX2_sendPicture_41 ?_
    refine lv_iload_n hx hb dX2_sendPicture_44 rfl (lv_at hl 2 rfl) ?_
    refine lv_dup2_11 hx hb dX2_sendPicture_45 rfl rfl ?_
    refine fz_il X hW 11 (w) rfl rfl (by omega) (by decide) dX2_sendPicture_46 ?_
    refine lv_iconst (v := 1) hx hb dX2_sendPicture_47 (by decide) ?_
    refine lv_iadd hx hb dX2_sendPicture_48 ?_
    refine fz_is X hW 11 (w) rfl rfl (by omega) (by decide) dX2_sendPicture_49 (fun H locs hW => ?_)
    refine lv_iload_n hx hb dX2_sendPicture_50 rfl (lv_at hl 3 rfl) ?_
    exact fz_ri X (fz_cast (by unfold spR; rw [if_neg h3]; rfl) hW) (by unfold spR; rw [if_neg h3]) dX2_sendPicture_51
  · skip
    have h3 : left < x := Int32.not_le.mp c3
    refine lv_iconst (v := 0) hx hb dX2_sendPicture_6 (by decide) ?_
    exact fz_ri X (fz_cast (by unfold spR; rw [if_pos h3]) hW) (by unfold spR; rw [if_pos h3]) dX2_sendPicture_7
set_option maxHeartbeats 4000000 in
set_option maxRecDepth 100000 in
theorem c_X2_sendRoughly (l : Launch) (g : GG) (a : Nat → Nat) (v : SV) (t : Nat) (left : Int32) (ht : t < 48) : fz_C l g yX2_sendRoughly cX2_sendRoughly 4 (some .int) 0 0 [.ref (a 0), .int (nI t), .int left] (SW g a v) (SW g a (srR v t left).2) (some (.int (srR v t left).1)) := by
  refine fz_C.of (by decide) (Nat.le_of_ble_eq_true rfl) ?_
  intro p e s m args below meth c A ls X hW hl
  have hx := X.1
  have hb := X.2.1
  have hl : lv_has ls 4 [(0, .ref (a 0)), (1, .int (nI t)), (2, .int left)] := hl
  have X : fz_X p s m meth c RX2 cX2_sendRoughly 4 (some .int) g A := X
  have hW : fz_W g A s (SW g a v) s.heap [] := hW
  refine lv_sipush (v := 1000) hx hb dX2_sendRoughly_0 (by decide) ?_
  refine lv_aload_n hx hb dX2_sendRoughly_3 rfl (lv_at hl 0 rfl) ?_
  refine gf_X2_9 X hW 0 rfl rfl dX2_sendRoughly_4 ?_
  refine lv_iload_n hx hb dX2_sendRoughly_7 rfl (lv_at hl 1 rfl) ?_
  refine fz_il X hW 1 (t) rfl rfl (by omega) (by decide) dX2_sendRoughly_8 ?_
  refine lv_bipush (v := 16) hx hb dX2_sendRoughly_9 (by decide) ?_
  refine lv_idiv hx hb dX2_sendRoughly_11 (by decide) ?_
  refine lv_iadd hx hb dX2_sendRoughly_12 ?_
  refine lv_istore_n (lv' := [(3, .int _), (0, .ref (a 0)), (1, .int (nI t)), (2, .int left)]) hx hb dX2_sendRoughly_13 rfl hl (by decide) rfl (fun ls hl => ?_)
  refine lv_iconst (v := 2) hx hb dX2_sendRoughly_14 (by decide) ?_
  refine lv_iload_n hx hb dX2_sendRoughly_15 rfl (lv_at hl 3 rfl) ?_
  refine lv_icmp_gt (tgt := 29) hx hb dX2_sendRoughly_16 (by decide) (fun c16 => ?_) (fun c16 => ?_)
  · skip
    refine lv_iconst (v := 0) hx hb dX2_sendRoughly_29 (by decide) ?_
    exact fz_ri X (fz_cast (by unfold srR; rw [if_pos c16]) hW) (by unfold srR; rw [if_pos c16]) dX2_sendRoughly_30
  · skip
    refine lv_aload_n hx hb dX2_sendRoughly_19 rfl (lv_at hl 1 rfl) ?_
    refine gf_X2_15 X hW 0 rfl rfl dX2_sendRoughly_20 ?_
    refine lv_iload_n hx hb dX2_sendRoughly_23 rfl (lv_at hl 2 rfl) ?_
    refine fz_il X hW 2 (t) rfl rfl (by omega) (by decide) dX2_sendRoughly_24 ?_
    refine lv_iload_n hx hb dX2_sendRoughly_25 rfl (lv_at hl 0 rfl) ?_
    refine lv_icmp_ne (tgt := 31) hx hb dX2_sendRoughly_26 (by decide) (fun c26 => ?_) (fun c26 => ?_)
    · skip
      have h26 : ¬ v.far t = roI v t := c26
      refine lv_aload_n hx hb dX2_sendRoughly_31 rfl (lv_at hl 1 rfl) ?_
      refine gf_X2_15 X hW 0 rfl rfl dX2_sendRoughly_32 ?_
      refine lv_iload_n hx hb dX2_sendRoughly_35 rfl (lv_at hl 2 rfl) ?_
      refine lv_iload_n hx hb dX2_sendRoughly_36 rfl (lv_at hl 0 rfl) ?_
      refine fz_is X hW 2 (t) rfl rfl (by omega) (by decide) dX2_sendRoughly_37 (fun H locs hW => ?_)
      refine lv_aload_n hx hb dX2_sendRoughly_38 rfl (lv_at hl 1 rfl) ?_
      refine gf_X2_50 X hW 0 rfl rfl dX2_sendRoughly_39 ?_
      refine lv_iconst (v := 2) hx hb dX2_sendRoughly_42 (by decide) ?_
      refine lv_dup2_11 hx hb dX2_sendRoughly_43 rfl rfl ?_
      refine fz_il X hW 11 (2) rfl rfl (by omega) (by decide) dX2_sendRoughly_44 ?_
      refine lv_iconst (v := 1) hx hb dX2_sendRoughly_45 (by decide) ?_
      refine lv_iadd hx hb dX2_sendRoughly_46 ?_
      refine fz_is X hW 11 (2) rfl rfl (by omega) (by decide) dX2_sendRoughly_47 (fun H locs hW => ?_)
      refine lv_iconst (v := 2) hx hb dX2_sendRoughly_48 (by decide) ?_
      exact fz_ri X (fz_cast (by unfold srR; rw [if_neg c16, if_neg h26]; rfl) hW) (by unfold srR; rw [if_neg c16, if_neg h26]) dX2_sendRoughly_49
    · skip
      have h26 : v.far t = roI v t := c26
      refine lv_iconst (v := 0) hx hb dX2_sendRoughly_29 (by decide) ?_
      exact fz_ri X (fz_cast (by unfold srR; rw [if_neg c16, if_pos h26]) hW) (by unfold srR; rw [if_neg c16, if_pos h26]) dX2_sendRoughly_30
set_option maxHeartbeats 4000000 in
set_option maxRecDepth 100000 in
theorem c_X2_sendTile (l : Launch) (g : GG) (a : Nat → Nat) (v : SV) (t : Nat) (left : Int32) (ht : t < 48) (hkc : v.kc ≤ 8) : fz_C l g yX2_sendTile cX2_sendTile 4 (some .int) 3 69 [.ref (a 0), .int (nI t), .int left] (SW g a v) (SW g a (stR v t left).2) (some (.int (stR v t left).1)) := by
  refine fz_C.of (by decide) (Nat.le_of_ble_eq_true rfl) ?_
  intro p e s m args below meth c A ls X hW hl
  have hx := X.1
  have hb := X.2.1
  have hl : lv_has ls 4 [(0, .ref (a 0)), (1, .int (nI t)), (2, .int left)] := hl
  have X : fz_X p s m meth c RX2 cX2_sendTile 4 (some .int) g A := X
  have hW : fz_W g A s (SW g a v) s.heap [] := hW
  refine lv_aload_n hx hb dX2_sendTile_0 rfl (lv_at hl 0 rfl) ?_
  refine gf_X2_9 X hW 0 rfl rfl dX2_sendTile_1 ?_
  refine lv_iload_n hx hb dX2_sendTile_4 rfl (lv_at hl 1 rfl) ?_
  refine fz_il X hW 1 (t) rfl rfl (by omega) (by decide) dX2_sendTile_5 ?_
  refine lv_istore_n (lv' := [(3, .int _), (0, .ref (a 0)), (1, .int (nI t)), (2, .int left)]) hx hb dX2_sendTile_6 rfl hl (by decide) rfl (fun ls hl => ?_)
  refine lv_aload_n hx hb dX2_sendTile_7 rfl (lv_at hl 1 rfl) ?_
  refine gf_X2_46 X hW 0 rfl rfl dX2_sendTile_8 ?_
  refine lv_iload_n hx hb dX2_sendTile_11 rfl (lv_at hl 0 rfl) ?_
  refine fz_cVi X hW (cs_holds l g a v (v.near t) hkc) lk_X2_148 (ci := 1) (q0 := 9) rfl rfl rfl rfl ⟨Nat.le_of_ble_eq_true rfl, Nat.le_of_ble_eq_true rfl⟩ hl rfl (Nat.le_of_ble_eq_true rfl) dX2_sendTile_12 ⟨Nat.le_refl _, Nat.le_refl _⟩ (fun H locs hW => ?_)
  refine lv_if_eq (tgt := 27) hx hb dX2_sendTile_15 (by decide) (fun c15 => ?_) (fun c15 => ?_)
  · skip
    have h15 : plcF v.kp (v.near t) 0 v.kc = -1 := by
      rcases Classical.em (plcF v.kp (v.near t) 0 v.kc = -1) with h | h
      · exact h
      · rw [if_neg h] at c15
        exact absurd c15 (by decide)
    refine lv_aload_n hx hb dX2_sendTile_27 rfl (lv_at hl 1 rfl) ?_
    refine lv_iload_n hx hb dX2_sendTile_28 rfl (lv_at hl 2 rfl) ?_
    refine fz_cVi X hW (c_X2_kindOf l g a v t ht) lk_X2_100 (ci := 2) (q0 := 0) rfl rfl rfl rfl ⟨Nat.le_of_ble_eq_true rfl, Nat.le_of_ble_eq_true rfl⟩ hl rfl (Nat.le_of_ble_eq_true rfl) dX2_sendTile_29 ⟨Nat.le_refl _, Nat.le_refl _⟩ (fun H locs hW => ?_)
    refine lv_iconst (v := 2) hx hb dX2_sendTile_32 (by decide) ?_
    refine lv_icmp_ne (tgt := 43) hx hb dX2_sendTile_33 (by decide) (fun c33 => ?_) (fun c33 => ?_)
    · skip
      refine lv_aload_n hx hb dX2_sendTile_43 rfl (lv_at hl 1 rfl) ?_
      refine lv_iload_n hx hb dX2_sendTile_44 rfl (lv_at hl 2 rfl) ?_
      refine lv_iconst (v := 3) hx hb dX2_sendTile_45 (by decide) ?_
      refine lv_iload_n hx hb dX2_sendTile_46 rfl (lv_at hl 0 rfl) ?_
      refine fz_cNi X hW (c_X3_wholeCost l g (v.near t) _) lk_X2_158 rfl ⟨Nat.le_of_ble_eq_true rfl, Nat.le_of_ble_eq_true rfl⟩ hl rfl (Nat.le_of_ble_eq_true rfl) dX2_sendTile_47 ⟨Nat.le_refl _, Nat.le_refl _⟩ (fun H locs hW => ?_)
      refine lv_iload_n hx hb dX2_sendTile_50 rfl (lv_at hl 3 rfl) ?_
      refine fz_cVi X hW (c_X2_sendPicture l g a v t 3 (wcI (v.near t)) left ht (by decide) hkc) lk_X2_151 (ci := 2) (q0 := 0) rfl rfl rfl rfl ⟨Nat.le_of_ble_eq_true rfl, Nat.le_of_ble_eq_true rfl⟩ hl rfl (Nat.le_of_ble_eq_true rfl) dX2_sendTile_51 ⟨Nat.le_refl _, Nat.le_refl _⟩ (fun H locs hW => ?_)
      exact fz_ri X (fz_cast (by unfold stR; rw [if_pos h15, if_neg c33]) hW) (by unfold stR; rw [if_pos h15, if_neg c33]) dX2_sendTile_54
    · skip
      refine lv_aload_n hx hb dX2_sendTile_36 rfl (lv_at hl 1 rfl) ?_
      refine lv_iload_n hx hb dX2_sendTile_37 rfl (lv_at hl 2 rfl) ?_
      refine lv_iload_n hx hb dX2_sendTile_38 rfl (lv_at hl 3 rfl) ?_
      refine fz_cVi X hW (c_X2_sendRoughly l g a v t left ht) lk_X2_155 (ci := 2) (q0 := 0) rfl rfl rfl rfl ⟨Nat.le_of_ble_eq_true rfl, Nat.le_of_ble_eq_true rfl⟩ hl rfl (Nat.le_of_ble_eq_true rfl) dX2_sendTile_39 ⟨Nat.le_refl _, Nat.le_refl _⟩ (fun H locs hW => ?_)
      exact fz_ri X (fz_cast (by unfold stR; rw [if_pos h15, if_pos c33]) hW) (by unfold stR; rw [if_pos h15, if_pos c33]) dX2_sendTile_42
  · skip
    have h15 : ¬ plcF v.kp (v.near t) 0 v.kc = -1 := fun h => c15 (if_pos h)
    refine lv_aload_n hx hb dX2_sendTile_18 rfl (lv_at hl 1 rfl) ?_
    refine lv_iload_n hx hb dX2_sendTile_19 rfl (lv_at hl 2 rfl) ?_
    refine lv_iconst (v := 1) hx hb dX2_sendTile_20 (by decide) ?_
    refine lv_iconst (v := 1) hx hb dX2_sendTile_21 (by decide) ?_
    refine lv_iload_n hx hb dX2_sendTile_22 rfl (lv_at hl 3 rfl) ?_
    refine fz_cVi X hW (c_X2_sendPicture l g a v t 1 1 left ht (by decide) hkc) lk_X2_151 (ci := 2) (q0 := 0) rfl rfl rfl rfl ⟨Nat.le_of_ble_eq_true rfl, Nat.le_of_ble_eq_true rfl⟩ hl rfl (Nat.le_of_ble_eq_true rfl) dX2_sendTile_23 ⟨Nat.le_refl _, Nat.le_refl _⟩ (fun H locs hW => ?_)
    exact fz_ri X (fz_cast (by unfold stR; rw [if_neg h15]) hW) (by unfold stR; rw [if_neg h15]) dX2_sendTile_26
theorem c_X2_sendTileX (l : Launch) (g : GG) (a : Nat → Nat) (v : SV) (x : Int32) (t : Nat) (left : Int32) (hx : x = nI t) (ht : t < 48) (hkc : v.kc ≤ 8) : fz_C l g yX2_sendTile cX2_sendTile 4 (some .int) 3 69 [.ref (a 0), .int x, .int left] (SW g a v) (SW g a (stR v x.toNatClampNeg left).2) (some (.int (stR v x.toNatClampNeg left).1)) := by
  subst hx
  rw [nI_clamp (by omega)]
  exact c_X2_sendTile l g a v t left ht hkc
set_option maxHeartbeats 4000000 in
set_option maxRecDepth 100000 in
theorem c_X2_sendTiles (l : Launch) (g : GG) (a : Nat → Nat) (v : SV) (b : Int32) (hkc : v.kc ≤ 8) : fz_C l g yX2_sendTiles cX2_sendTiles 5 (some .int) 4 99 [.ref (a 0), .int b] (SW g a v) (SW g a (saR v b).2) (some (.int (saR v b).1)) := by
  refine fz_C.of (by decide) (Nat.le_of_ble_eq_true rfl) ?_
  intro p e s m args below meth c A ls X hW hl
  have hx := X.1
  have hb := X.2.1
  have hl : lv_has ls 5 [(0, .ref (a 0)), (1, .int b)] := hl
  have X : fz_X p s m meth c RX2 cX2_sendTiles 5 (some .int) g A := X
  have hW : fz_W g A s (SW g a v) s.heap [] := hW
  have hp := piF_ok v 48 (Nat.le_refl _)
  have hk := saF_keep (piV v 48) b hkc
  refine lv_aload_n hx hb dX2_sendTiles_0 rfl (lv_at hl 0 rfl) ?_
  refine fz_cVi X hW (c_X2_putInOrder l g a v) lk_X2_125 (ci := 2) (q0 := 0) rfl rfl rfl rfl ⟨Nat.le_of_ble_eq_true rfl, Nat.le_of_ble_eq_true rfl⟩ hl rfl (Nat.le_of_ble_eq_true rfl) dX2_sendTiles_1 ⟨Nat.le_refl _, Nat.le_refl _⟩ (fun H locs hW => ?_)
  refine lv_istore_n (lv' := [(2, .int (nI (piF v 48).1)), (0, .ref (a 0)), (1, .int b)]) hx hb dX2_sendTiles_4 rfl hl (by decide) rfl (fun ls hl => ?_)
  refine lv_iload_n hx hb dX2_sendTiles_5 rfl (lv_at hl 2 rfl) ?_
  refine lv_istore_n (lv' := [(3, .int b), (2, .int (nI (piF v 48).1)), (0, .ref (a 0)), (1, .int b)]) hx hb dX2_sendTiles_6 rfl hl (by decide) rfl (fun ls hl => ?_)
  refine lv_iconst (v := 0) hx hb dX2_sendTiles_7 (by decide) ?_
  refine lv_istore (lv' := [(4, .int 0), (3, .int b), (2, .int (nI (piF v 48).1)), (0, .ref (a 0)), (1, .int b)]) hx hb dX2_sendTiles_8 hl (by decide) rfl (fun ls hl => ?_)
  have loop10 : ∀ (k : Nat) (y : Nat) (st : Int32 × SV), y ≤ (piF v 48).1 → (piF v 48).1 < y + k → st = saF (piV v 48) b y → ∀ (H : Heap) (locs : List Loc) (ls : Array Slot), fz_W g A s (SW g a st.2) H locs → lv_has ls 5 [(0, .ref (a 0)), (1, .int b), (2, .int (nI (piF v 48).1)), (3, .int st.1), (4, .int (nI y))] → W p l e (fz_R 4 0 0 99) s m args below meth c H locs 0 0 (MQ below (fz_Q g (SW g a (saR v b).2) (some (.int (saR v b).1)) A) args s 0 0 A) (F0 m 10 ls []) := by
    intro k
    induction k with
    | zero =>
      intro y st hp hk
      omega
    | succ k ih10 =>
      intro y st hp1 hp2 hs H locs ls hW hl
      obtain ⟨ko, kk⟩ := hk y
      rw [← hs] at ko kk
      refine lv_iload hx hb dX2_sendTiles_10 (lv_at hl 4 rfl) ?_
      refine lv_iload_n hx hb dX2_sendTiles_12 rfl (lv_at hl 2 rfl) ?_
      refine lv_icmp_ge (tgt := 37) hx hb dX2_sendTiles_13 (by decide) (fun c13 => ?_) (fun c13 => ?_)
      · skip
        have h13 : (piF v 48).1 ≤ y := (nI_leI (a := (piF v 48).1) (b := y) (by omega) (by omega)).mp c13
        have e13 : y = (piF v 48).1 := by omega
        have hl := lv_sub hl [0, 1, 2, 3] rfl
        have hl : lv_has ls 5 [(0, .ref (a 0)), (1, .int b), (2, .int (nI (piF v 48).1)), (3, .int st.1)] := hl
        refine lv_iload_n hx hb dX2_sendTiles_37 rfl (lv_at hl 1 rfl) ?_
        refine lv_iload_n hx hb dX2_sendTiles_38 rfl (lv_at hl 3 rfl) ?_
        refine lv_isub hx hb dX2_sendTiles_39 ?_
        exact fz_ri X (fz_cast (by rw [hs, e13]; rfl) hW) (by rw [hs, e13]; rfl) dX2_sendTiles_40
      · skip
        have h13 : y < (piF v 48).1 := Nat.not_le.mp (fun z => c13 ((nI_leI (a := (piF v 48).1) (b := y) (by omega) (by omega)).mpr z))
        obtain ⟨u, hu1, hu2⟩ := hp.2 y h13
        have hu3 : st.2.order y = nI u := by rw [ko]; exact hu2
        refine lv_iload_n hx hb dX2_sendTiles_16 rfl (lv_at hl 3 rfl) ?_
        refine lv_aload_n hx hb dX2_sendTiles_17 rfl (lv_at hl 0 rfl) ?_
        refine lv_aload_n hx hb dX2_sendTiles_18 rfl (lv_at hl 0 rfl) ?_
        refine gf_X2_27 X hW 0 rfl rfl dX2_sendTiles_19 ?_
        refine lv_iload hx hb dX2_sendTiles_22 (lv_at hl 4 rfl) ?_
        refine fz_il X hW 6 (y) rfl rfl (by omega) (by decide) dX2_sendTiles_24 ?_
        refine lv_iload_n hx hb dX2_sendTiles_25 rfl (lv_at hl 3 rfl) ?_
        refine fz_cVi X hW (c_X2_sendTileX l g a st.2 (st.2.order y) u st.1 hu3 hu1 kk) lk_X2_129 (ci := 2) (q0 := 0) rfl rfl rfl rfl ⟨Nat.le_of_ble_eq_true rfl, Nat.le_of_ble_eq_true rfl⟩ hl rfl (Nat.le_of_ble_eq_true rfl) dX2_sendTiles_26 ⟨Nat.le_refl _, Nat.le_refl _⟩ (fun H locs hW => ?_)
        refine lv_isub hx hb dX2_sendTiles_29 ?_
        refine lv_istore_n (lv' := [(3, .int (st.1 - ((stR st.2 (st.2.order y).toNatClampNeg st.1).1))), (0, .ref (a 0)), (1, .int b), (2, .int (nI (piF v 48).1)), (4, .int (nI y))]) hx hb dX2_sendTiles_30 rfl hl (by decide) rfl (fun ls hl => ?_)
        refine lv_iinc (v := nI (y + 1)) (lv' := [(4, .int (nI (y + 1))), (3, .int (st.1 - ((stR st.2 (st.2.order y).toNatClampNeg st.1).1))), (0, .ref (a 0)), (1, .int b), (2, .int (nI (piF v 48).1))]) hx hb dX2_sendTiles_31 hl (k := 4) rfl (nI_1 _) (by decide) rfl (fun ls hl => ?_)
        refine lv_goto (tgt := 10) hx hb dX2_sendTiles_34 (by decide) ?_
        exact ih10 (y + 1) (st.1 - (stR st.2 (st.2.order y).toNatClampNeg st.1).1, (stR st.2 (st.2.order y).toNatClampNeg st.1).2) (by omega) (by omega) (by rw [hs]; rfl) _ _ _ (fz_cast (rfl) hW) (lv_sub hl [2, 3, 4, 1, 0] rfl)
  exact loop10 ((piF v 48).1 + 1) 0 (b, piV v 48) (by omega) (by omega) rfl _ _ _ (fz_cast (rfl) hW) (lv_sub hl [3, 4, 2, 1, 0] rfl)
