set_option maxHeartbeats 4000000 in
set_option maxRecDepth 100000 in
theorem c_X4_look (l : Launch) (g : GG) (o : Nat → Nat) (m0 : MV) (x y : Int32) : fz_C l g yX4_look cX4_look 4 (some .int) 2 43 [.ref (o 0), .int x, .int y] (MW g o m0) (MW g o (mloR m0 x y).2) (some (.int (mloR m0 x y).1)) := by
  refine fz_C.of (by decide) (Nat.le_of_ble_eq_true rfl) ?_
  intro p e s m args below meth c A ls X hW hl
  have hx := X.1
  have hb := X.2.1
  have hl : lv_has ls 4 [(0, .ref (o 0)), (1, .int x), (2, .int y)] := hl
  have X : fz_X p s m meth c RX4 cX4_look 4 (some .int) g A := X
  have hW : fz_W g A s (MW g o m0) s.heap [] := hW
  refine lv_aload_n hx hb dX4_look_0 rfl (lv_at hl 0 rfl) ?_
  refine lv_iload_n hx hb dX4_look_1 rfl (lv_at hl 1 rfl) ?_
  refine lv_iload_n hx hb dX4_look_2 rfl (lv_at hl 2 rfl) ?_
  refine fz_cSi X hW (c_X4_isTile l g x y _) lk_X4_61 rfl ⟨Nat.le_of_ble_eq_true rfl, Nat.le_of_ble_eq_true rfl⟩ hl rfl (Nat.le_of_ble_eq_true rfl) dX4_look_3 ⟨Nat.le_refl _, Nat.le_refl _⟩ (fun H locs hW => ?_)
  refine lv_if_eq (tgt := 13) hx hb dX4_look_6 (by decide) (fun c6 => ?_) (fun c6 => ?_)
  · skip
    have kt : ¬ okT x y := b01_0.mp c6
    refine lv_iconst (v := 1) hx hb dX4_look_13 (by decide) ?_
    refine pf_X4_53 X hW 0 rfl (Nat.le_of_ble_eq_true rfl) dX4_look_14 (fun H locs hW => ?_)
    refine lv_aload_n hx hb dX4_look_17 rfl (lv_at hl 0 rfl) ?_
    refine gf_X4_91 X hW 0 rfl rfl dX4_look_18 ?_
    refine lv_istore_n (lv' := [(3, .int (nI m0.look)), (0, .ref (o 0)), (1, .int x), (2, .int y)]) hx hb dX4_look_21 rfl hl (by decide) rfl (fun ls hl => ?_)
    refine lv_aload_n hx hb dX4_look_22 rfl (lv_at hl 1 rfl) ?_
    refine lv_aload_n hx hb dX4_look_23 rfl (lv_at hl 1 rfl) ?_
    refine gf_X4_53 X hW 0 rfl rfl dX4_look_24 ?_
    refine lv_if_le (tgt := 37) hx hb dX4_look_27 (by decide) (fun c27 => ?_) (fun c27 => ?_)
    · first | exact absurd c27 (by decide) | exact absurd (by decide) c27
    · skip
      refine lv_aload_n hx hb dX4_look_30 rfl (lv_at hl 1 rfl) ?_
      refine gf_X4_91 X hW 0 rfl rfl dX4_look_31 ?_
      refine lv_goto (tgt := 43) hx hb dX4_look_34 (by decide) ?_
      refine pf_X4_91 X hW 0 rfl (Nat.le_of_ble_eq_true rfl) dX4_look_43 (fun H locs hW => ?_)
      refine lv_aload_n hx hb dX4_look_46 rfl (lv_at hl 1 rfl) ?_
      refine gf_X4_53 X hW 0 rfl rfl dX4_look_47 ?_
      refine lv_if_le (tgt := 57) hx hb dX4_look_50 (by decide) (fun c50 => ?_) (fun c50 => ?_)
      · first | exact absurd c50 (by decide) | exact absurd (by decide) c50
      · skip
        refine lv_iconst (v := 0) hx hb dX4_look_53 (by decide) ?_
        refine lv_goto (tgt := 58) hx hb dX4_look_54 (by decide) ?_
        exact fz_ri X (fz_cast (by unfold mloR; rw [if_neg kt]; rfl) hW) (by unfold mloR; rw [if_neg kt]) dX4_look_58
  · skip
    have kt : okT x y := b01_1 c6
    obtain ⟨i, j, ex1, ey1, hi8, hj6, etn⟩ := okT_nat kt
    refine lv_iconst (v := 0) hx hb dX4_look_9 (by decide) ?_
    refine lv_goto (tgt := 14) hx hb dX4_look_10 (by decide) ?_
    refine pf_X4_53 X hW 0 rfl (Nat.le_of_ble_eq_true rfl) dX4_look_14 (fun H locs hW => ?_)
    refine lv_aload_n hx hb dX4_look_17 rfl (lv_at hl 0 rfl) ?_
    refine gf_X4_91 X hW 0 rfl rfl dX4_look_18 ?_
    refine lv_istore_n (lv' := [(3, .int (nI m0.look)), (0, .ref (o 0)), (1, .int x), (2, .int y)]) hx hb dX4_look_21 rfl hl (by decide) rfl (fun ls hl => ?_)
    refine lv_aload_n hx hb dX4_look_22 rfl (lv_at hl 1 rfl) ?_
    refine lv_aload_n hx hb dX4_look_23 rfl (lv_at hl 1 rfl) ?_
    refine gf_X4_53 X hW 0 rfl rfl dX4_look_24 ?_
    refine lv_if_le (tgt := 37) hx hb dX4_look_27 (by decide) (fun c27 => ?_) (fun c27 => ?_)
    · skip
      refine lv_bipush (v := 8) hx hb dX4_look_37 (by decide) ?_
      refine lv_iload_n hx hb dX4_look_39 rfl (lv_at hl 3 rfl) ?_
      refine lv_imul hx hb dX4_look_40 ?_
      refine lv_iload_n hx hb dX4_look_41 rfl (lv_at hl 2 rfl) ?_
      refine lv_iadd hx hb dX4_look_42 ?_
      refine fz_top (x' := nI (tN x y)) (by rw [etn, ex1, ey1]; exact fz_tl _ _) ?_
      refine pf_X4_91 X hW 0 rfl (Nat.le_of_ble_eq_true rfl) dX4_look_43 (fun H locs hW => ?_)
      refine lv_aload_n hx hb dX4_look_46 rfl (lv_at hl 1 rfl) ?_
      refine gf_X4_53 X hW 0 rfl rfl dX4_look_47 ?_
      refine lv_if_le (tgt := 57) hx hb dX4_look_50 (by decide) (fun c50 => ?_) (fun c50 => ?_)
      · skip
        refine lv_iload_n hx hb dX4_look_57 rfl (lv_at hl 0 rfl) ?_
        exact fz_ri X (fz_cast (by unfold mloR; rw [if_pos kt]; rfl) hW) (by unfold mloR; rw [if_pos kt]) dX4_look_58
      · first | exact absurd c50 (by decide) | exact absurd (by decide) c50
    · first | exact absurd c27 (by decide) | exact absurd (by decide) c27
theorem mnF_s {done worth : Nat → Int32} {t : Nat} {z : Int32} (h : z = mnF done worth t) : mnF done worth (t + 1) = if done t = 0 ∧ (z = -1 ∨ worth z.toNatClampNeg < worth t) then nI t else z := by
  rw [h]
  rfl
set_option maxHeartbeats 4000000 in
set_option maxRecDepth 100000 in
theorem c_X4_nextTile (l : Launch) (g : GG) (o : Nat → Nat) (m0 : MV) : fz_C l g yX4_nextTile cX4_nextTile 3 (some .int) 0 0 [.ref (o 0)] (MW g o m0) (MW g o m0) (some (.int (mnF m0.done m0.worth 48))) := by
  refine fz_C.of (by decide) (Nat.le_of_ble_eq_true rfl) ?_
  intro p e s m args below meth c A ls X hW hl
  have hx := X.1
  have hb := X.2.1
  have hl : lv_has ls 3 [(0, .ref (o 0))] := hl
  have X : fz_X p s m meth c RX4 cX4_nextTile 3 (some .int) g A := X
  have hW : fz_W g A s (MW g o m0) s.heap [] := hW
  refine lv_iconst (v := (-1)) hx hb dX4_nextTile_0 (by decide) ?_
  refine lv_istore_n (lv' := [(1, .int (-1)), (0, .ref (o 0))]) hx hb dX4_nextTile_1 rfl hl (by decide) rfl (fun ls hl => ?_)
  refine lv_iconst (v := 0) hx hb dX4_nextTile_2 (by decide) ?_
  refine lv_istore_n (lv' := [(2, .int 0), (1, .int (-1)), (0, .ref (o 0))]) hx hb dX4_nextTile_3 rfl hl (by decide) rfl (fun ls hl => ?_)
  have loop4 : ∀ (k : Nat) (t : Nat) (z : Int32), t ≤ 48 → 48 < t + k → z = mnF m0.done m0.worth t → ∀ (H : Heap) (locs : List Loc) (ls : Array Slot), fz_W g A s (MW g o m0) H locs → lv_has ls 3 [(0, .ref (o 0)), (1, .int z), (2, .int (nI t))] → W p l e (fz_R 0 0 0 0) s m args below meth c H locs 0 0 (MQ below (fz_Q g (MW g o m0) (some (.int (mnF m0.done m0.worth 48))) A) args s 0 0 A) (F0 m 4 ls []) := by
    intro k
    induction k with
    | zero =>
      intro t z ht hk
      omega
    | succ k ih4 =>
      intro t z ht hk hz H locs ls hW hl
      refine lv_iload_n hx hb dX4_nextTile_4 rfl (lv_at hl 2 rfl) ?_
      refine lv_bipush (v := 48) hx hb dX4_nextTile_5 (by decide) ?_
      refine lv_icmp_ge (tgt := 51) hx hb dX4_nextTile_7 (by decide) (fun c7 => ?_) (fun c7 => ?_)
      · skip
        have h7 : 48 ≤ t := (nI_leI (a := 48) (b := t) (by omega) (by omega)).mp c7
        have e7 : t = 48 := by omega
        have hl := lv_sub hl [0, 1] rfl
        have hl : lv_has ls 3 [(0, .ref (o 0)), (1, .int z)] := hl
        refine lv_iload_n hx hb dX4_nextTile_51 rfl (lv_at hl 1 rfl) ?_
        exact fz_ri X (fz_cast (rfl) hW) (by rw [hz, e7]) dX4_nextTile_52
      · skip
        have h7 : t < 48 := Nat.not_le.mp (fun z => c7 ((nI_leI (a := 48) (b := t) (by omega) (by omega)).mpr z))
        refine lv_aload_n hx hb dX4_nextTile_10 rfl (lv_at hl 0 rfl) ?_
        refine gf_X4_43 X hW 0 rfl rfl dX4_nextTile_11 ?_
        refine lv_iload_n hx hb dX4_nextTile_14 rfl (lv_at hl 2 rfl) ?_
        refine fz_zl X hW 12 (t) rfl rfl (by omega) (by decide) dX4_nextTile_15 ?_
        refine lv_if_ne (tgt := 43) hx hb dX4_nextTile_16 (by decide) (fun c16 => ?_) (fun c16 => ?_)
        · skip
          have c16 : ¬ m0.done t = 0 := c16
          refine lv_iload_n hx hb dX4_nextTile_43 rfl (lv_at hl 1 rfl) ?_
          refine lv_istore_n (lv' := [(1, .int z), (0, .ref (o 0)), (2, .int (nI t))]) hx hb dX4_nextTile_44 rfl hl (by decide) rfl (fun ls hl => ?_)
          refine lv_iinc (v := nI (t + 1)) (lv' := [(2, .int (nI (t + 1))), (1, .int z), (0, .ref (o 0))]) hx hb dX4_nextTile_45 hl (k := 2) rfl (nI_1 _) (by decide) rfl (fun ls hl => ?_)
          refine lv_goto (tgt := 4) hx hb dX4_nextTile_48 (by decide) ?_
          exact ih4 (t + 1) z (by omega) (by omega) (by rw [mnF_s hz]; exact (if_neg (fun q => c16 q.1)).symm) _ _ _ (fz_cast (rfl) hW) (lv_sub hl [2, 1, 0] rfl)
        · skip
          have c16 : m0.done t = 0 := c16
          refine lv_iload_n hx hb dX4_nextTile_19 rfl (lv_at hl 1 rfl) ?_
          refine lv_iconst (v := (-1)) hx hb dX4_nextTile_20 (by decide) ?_
          refine lv_icmp_eq (tgt := 39) hx hb dX4_nextTile_21 (by decide) (fun c21 => ?_) (fun c21 => ?_)
          · skip
            refine lv_iload_n hx hb dX4_nextTile_39 rfl (lv_at hl 2 rfl) ?_
            refine lv_goto (tgt := 44) hx hb dX4_nextTile_40 (by decide) ?_
            refine lv_istore_n (lv' := [(1, .int (nI t)), (0, .ref (o 0)), (2, .int (nI t))]) hx hb dX4_nextTile_44 rfl hl (by decide) rfl (fun ls hl => ?_)
            refine lv_iinc (v := nI (t + 1)) (lv' := [(2, .int (nI (t + 1))), (1, .int (nI t)), (0, .ref (o 0))]) hx hb dX4_nextTile_45 hl (k := 2) rfl (nI_1 _) (by decide) rfl (fun ls hl => ?_)
            refine lv_goto (tgt := 4) hx hb dX4_nextTile_48 (by decide) ?_
            exact ih4 (t + 1) (nI t) (by omega) (by omega) (by rw [mnF_s hz]; exact (if_pos ⟨c16, Or.inl c21⟩).symm) _ _ _ (fz_cast (rfl) hW) (lv_sub hl [2, 1, 0] rfl)
          · skip
            obtain ⟨j, hj1, hj2⟩ : ∃ j, j < t ∧ z = nI j := by
              rcases mnF_in m0.done m0.worth t with q | ⟨j, q1, q2, q3⟩
              · exact absurd (hz.trans q) c21
              · exact ⟨j, q1, hz.trans q2⟩
            have hj3 : z.toNatClampNeg = j := by rw [hj2]; exact nI_clamp (by omega)
            refine lv_aload_n hx hb dX4_nextTile_24 rfl (lv_at hl 0 rfl) ?_
            refine gf_X4_47 X hW 0 rfl rfl dX4_nextTile_25 ?_
            refine lv_iload_n hx hb dX4_nextTile_28 rfl (lv_at hl 2 rfl) ?_
            refine fz_il X hW 13 (t) rfl rfl (by omega) (by decide) dX4_nextTile_29 ?_
            refine lv_aload_n hx hb dX4_nextTile_30 rfl (lv_at hl 0 rfl) ?_
            refine gf_X4_47 X hW 0 rfl rfl dX4_nextTile_31 ?_
            refine lv_iload_n hx hb dX4_nextTile_34 rfl (lv_at hl 1 rfl) ?_
            refine fz_il X hW 13 (j) rfl hj2 (by omega) (by decide) dX4_nextTile_35 ?_
            refine lv_icmp_le (tgt := 43) hx hb dX4_nextTile_36 (by decide) (fun c36 => ?_) (fun c36 => ?_)
            · skip
              have c36 : m0.worth t ≤ m0.worth j := c36
              refine lv_iload_n hx hb dX4_nextTile_43 rfl (lv_at hl 1 rfl) ?_
              refine lv_istore_n (lv' := [(1, .int z), (0, .ref (o 0)), (2, .int (nI t))]) hx hb dX4_nextTile_44 rfl hl (by decide) rfl (fun ls hl => ?_)
              refine lv_iinc (v := nI (t + 1)) (lv' := [(2, .int (nI (t + 1))), (1, .int z), (0, .ref (o 0))]) hx hb dX4_nextTile_45 hl (k := 2) rfl (nI_1 _) (by decide) rfl (fun ls hl => ?_)
              refine lv_goto (tgt := 4) hx hb dX4_nextTile_48 (by decide) ?_
              exact ih4 (t + 1) z (by omega) (by omega) (by rw [mnF_s hz, hj3]; exact (if_neg (fun q => q.2.elim c21 (fun r => absurd r (Int32.not_lt.mpr c36)))).symm) _ _ _ (fz_cast (rfl) hW) (lv_sub hl [2, 1, 0] rfl)
            · skip
              have c36 : ¬ m0.worth t ≤ m0.worth j := c36
              refine lv_iload_n hx hb dX4_nextTile_39 rfl (lv_at hl 2 rfl) ?_
              refine lv_goto (tgt := 44) hx hb dX4_nextTile_40 (by decide) ?_
              refine lv_istore_n (lv' := [(1, .int (nI t)), (0, .ref (o 0)), (2, .int (nI t))]) hx hb dX4_nextTile_44 rfl hl (by decide) rfl (fun ls hl => ?_)
              refine lv_iinc (v := nI (t + 1)) (lv' := [(2, .int (nI (t + 1))), (1, .int (nI t)), (0, .ref (o 0))]) hx hb dX4_nextTile_45 hl (k := 2) rfl (nI_1 _) (by decide) rfl (fun ls hl => ?_)
              refine lv_goto (tgt := 4) hx hb dX4_nextTile_48 (by decide) ?_
              exact ih4 (t + 1) (nI t) (by omega) (by omega) (by rw [mnF_s hz, hj3]; exact (if_pos ⟨c16, Or.inr (Int32.not_le.mp c36)⟩).symm) _ _ _ (fz_cast (rfl) hW) (lv_sub hl [2, 1, 0] rfl)
  exact loop4 49 0 (-1) (by omega) (by omega) rfl _ _ _ (fz_cast (rfl) hW) (lv_sub hl [2, 1, 0] rfl)
