set_option maxHeartbeats 4000000 in
set_option maxRecDepth 100000 in
theorem k_X3_checkTile (l : Launch) (g : GG) (x y : Int32) (hok : okT x y) (ws : va_W) : fz_C l g yX3_checkTile cX3_checkTile 2 none 6 90 [.int x, .int y] (ws) (ws) none := by
  refine fz_C.of (by decide) (Nat.le_of_ble_eq_true rfl) ?_
  intro p e s m args below meth c A ls X hW hl
  have hx := X.1
  have hb := X.2.1
  have hl : lv_has ls 2 [(0, .int x), (1, .int y)] := hl
  have X : fz_X p s m meth c RX3 cX3_checkTile 2 none g A := X
  have hW : fz_W g A s (ws) s.heap [] := hW
  refine lv_iload_n hx hb dX3_checkTile_0 rfl (lv_at hl 0 rfl) ?_
  refine lv_if_lt (tgt := 20) hx hb dX3_checkTile_1 (by decide) (fun c1 => ?_) (fun c1 => ?_)
  · exact absurd c1 hok.1
  · skip
    refine lv_iload_n hx hb dX3_checkTile_4 rfl (lv_at hl 0 rfl) ?_
    refine lv_bipush (v := 8) hx hb dX3_checkTile_5 (by decide) ?_
    refine lv_icmp_ge (tgt := 20) hx hb dX3_checkTile_7 (by decide) (fun c7 => ?_) (fun c7 => ?_)
    · exact absurd c7 hok.2.1
    · skip
      refine lv_iload_n hx hb dX3_checkTile_10 rfl (lv_at hl 1 rfl) ?_
      refine lv_if_lt (tgt := 20) hx hb dX3_checkTile_11 (by decide) (fun c11 => ?_) (fun c11 => ?_)
      · exact absurd c11 hok.2.2.1
      · skip
        refine lv_iload_n hx hb dX3_checkTile_14 rfl (lv_at hl 1 rfl) ?_
        refine lv_bipush (v := 6) hx hb dX3_checkTile_15 (by decide) ?_
        refine lv_icmp_lt (tgt := 30) hx hb dX3_checkTile_17 (by decide) (fun c17 => ?_) (fun c17 => ?_)
        · skip
          exact fz_rv X (fz_cast (rfl) hW) dX3_checkTile_30
        · exact absurd hok.2.2.2 c17
set_option maxHeartbeats 4000000 in
set_option maxRecDepth 100000 in
theorem k_X3_checkBlock (l : Launch) (g : GG) (x y w h : Int32) (hok : okB x y w h) (ws : va_W) : fz_C l g yX3_checkBlock cX3_checkBlock 4 none 7 111 [.int x, .int y, .int w, .int h] (ws) (ws) none := by
  refine fz_C.of (by decide) (Nat.le_of_ble_eq_true rfl) ?_
  intro p e s m args below meth c A ls X hW hl
  have hx := X.1
  have hb := X.2.1
  have hl : lv_has ls 4 [(0, .int x), (1, .int y), (2, .int w), (3, .int h)] := hl
  have X : fz_X p s m meth c RX3 cX3_checkBlock 4 none g A := X
  have hW : fz_W g A s (ws) s.heap [] := hW
  refine lv_iload_n hx hb dX3_checkBlock_0 rfl (lv_at hl 0 rfl) ?_
  refine lv_iload_n hx hb dX3_checkBlock_1 rfl (lv_at hl 1 rfl) ?_
  refine fz_cSv X hW (k_X3_checkTile l g x y hok.1 _) lk_X3_48 rfl ⟨Nat.le_of_ble_eq_true rfl, Nat.le_of_ble_eq_true rfl⟩ hl rfl (Nat.le_of_ble_eq_true rfl) dX3_checkBlock_2 ⟨Nat.le_refl _, Nat.le_refl _⟩ (fun H locs hW => ?_)
  refine lv_iload_n hx hb dX3_checkBlock_5 rfl (lv_at hl 2 rfl) ?_
  refine lv_iconst (v := 1) hx hb dX3_checkBlock_6 (by decide) ?_
  refine lv_icmp_lt (tgt := 31) hx hb dX3_checkBlock_7 (by decide) (fun c7 => ?_) (fun c7 => ?_)
  · exact absurd c7 hok.2.1
  · skip
    refine lv_iload_n hx hb dX3_checkBlock_10 rfl (lv_at hl 2 rfl) ?_
    refine lv_bipush (v := 8) hx hb dX3_checkBlock_11 (by decide) ?_
    refine lv_iload_n hx hb dX3_checkBlock_13 rfl (lv_at hl 0 rfl) ?_
    refine lv_isub hx hb dX3_checkBlock_14 ?_
    refine lv_icmp_gt (tgt := 31) hx hb dX3_checkBlock_15 (by decide) (fun c15 => ?_) (fun c15 => ?_)
    · exact absurd c15 hok.2.2.1
    · skip
      refine lv_iload_n hx hb dX3_checkBlock_18 rfl (lv_at hl 3 rfl) ?_
      refine lv_iconst (v := 1) hx hb dX3_checkBlock_19 (by decide) ?_
      refine lv_icmp_lt (tgt := 31) hx hb dX3_checkBlock_20 (by decide) (fun c20 => ?_) (fun c20 => ?_)
      · exact absurd c20 hok.2.2.2.1
      · skip
        refine lv_iload_n hx hb dX3_checkBlock_23 rfl (lv_at hl 3 rfl) ?_
        refine lv_bipush (v := 6) hx hb dX3_checkBlock_24 (by decide) ?_
        refine lv_iload_n hx hb dX3_checkBlock_26 rfl (lv_at hl 1 rfl) ?_
        refine lv_isub hx hb dX3_checkBlock_27 ?_
        refine lv_icmp_le (tgt := 41) hx hb dX3_checkBlock_28 (by decide) (fun c28 => ?_) (fun c28 => ?_)
        · skip
          exact fz_rv X (fz_cast (rfl) hW) dX3_checkBlock_41
        · exact absurd hok.2.2.2.2 c28
set_option maxHeartbeats 4000000 in
set_option maxRecDepth 100000 in
theorem k_X3_checkBudget (l : Launch) (g : GG) (b : Int32) (hok : okG b) (ws : va_W) : fz_C l g yX3_checkBudget cX3_checkBudget 1 none 6 90 [.int b] (ws) (ws) none := by
  refine fz_C.of (by decide) (Nat.le_of_ble_eq_true rfl) ?_
  intro p e s m args below meth c A ls X hW hl
  have hx := X.1
  have hb := X.2.1
  have hl : lv_has ls 1 [(0, .int b)] := hl
  have X : fz_X p s m meth c RX3 cX3_checkBudget 1 none g A := X
  have hW : fz_W g A s (ws) s.heap [] := hW
  refine lv_iload_n hx hb dX3_checkBudget_0 rfl (lv_at hl 0 rfl) ?_
  refine lv_if_lt (tgt := 11) hx hb dX3_checkBudget_1 (by decide) (fun c1 => ?_) (fun c1 => ?_)
  · exact absurd c1 hok.1
  · skip
    refine lv_iload_n hx hb dX3_checkBudget_4 rfl (lv_at hl 0 rfl) ?_
    refine lv_sipush (v := 300) hx hb dX3_checkBudget_5 (by decide) ?_
    refine lv_icmp_le (tgt := 21) hx hb dX3_checkBudget_8 (by decide) (fun c8 => ?_) (fun c8 => ?_)
    · skip
      exact fz_rv X (fz_cast (rfl) hW) dX3_checkBudget_21
    · exact absurd hok.2 c8
set_option maxHeartbeats 4000000 in
set_option maxRecDepth 100000 in
theorem k_X3_near (l : Launch) (g : GG) (f : Nat) (a b : Nat → Nat) (v u : SV) (x y : Int32) (hok : okT x y) : fz_C l g yX3_near cX3_near 3 (some .int) 7 111 [.ref f, .int x, .int y] (FW g f a b v u) (FW g f a b v u) (some (.int (v.near (tN x y)))) := by
  refine fz_C.of (by decide) (Nat.le_of_ble_eq_true rfl) ?_
  intro p e s m args below meth c A ls X hW hl
  have hx := X.1
  have hb := X.2.1
  have hl : lv_has ls 3 [(0, .ref f), (1, .int x), (2, .int y)] := hl
  have X : fz_X p s m meth c RX3 cX3_near 3 (some .int) g A := X
  have hW : fz_W g A s (FW g f a b v u) s.heap [] := hW
  obtain ⟨i, j, ex1, ey1, hi8, hj6, etn⟩ := okT_nat hok
  refine lv_iload_n hx hb dX3_near_0 rfl (lv_at hl 1 rfl) ?_
  refine lv_iload_n hx hb dX3_near_1 rfl (lv_at hl 2 rfl) ?_
  refine fz_cSv X hW (k_X3_checkTile l g x y hok _) lk_X3_48 rfl ⟨Nat.le_of_ble_eq_true rfl, Nat.le_of_ble_eq_true rfl⟩ hl rfl (Nat.le_of_ble_eq_true rfl) dX3_near_2 ⟨Nat.le_refl _, Nat.le_refl _⟩ (fun H locs hW => ?_)
  refine lv_aload_n hx hb dX3_near_5 rfl (lv_at hl 0 rfl) ?_
  refine gf_X3_10 X hW 0 rfl rfl dX3_near_6 ?_
  refine gf_X3_70 X hW 1 rfl rfl dX3_near_9 ?_
  refine lv_iload_n hx hb dX3_near_12 rfl (lv_at hl 1 rfl) ?_
  refine lv_iload_n hx hb dX3_near_13 rfl (lv_at hl 2 rfl) ?_
  refine fz_cSi X hW (c_X3_tileAt l g _ _ _) lk_X3_55 rfl ⟨Nat.le_of_ble_eq_true rfl, Nat.le_of_ble_eq_true rfl⟩ hl rfl (Nat.le_of_ble_eq_true rfl) dX3_near_14 ⟨Nat.le_refl _, Nat.le_refl _⟩ (fun H locs hW => ?_)
  refine fz_il X hW 2 (8 * j + i) rfl (by rw [ex1, ey1]; exact fz_tl _ _) (by omega) (by decide) dX3_near_17 ?_
  exact fz_ri X (fz_cast (rfl) hW) (by rw [etn]) dX3_near_18
set_option maxHeartbeats 4000000 in
set_option maxRecDepth 100000 in
theorem k_X3_far (l : Launch) (g : GG) (f : Nat) (a b : Nat → Nat) (v u : SV) (x y : Int32) (hok : okT x y) : fz_C l g yX3_far cX3_far 3 (some .int) 7 111 [.ref f, .int x, .int y] (FW g f a b v u) (FW g f a b v u) (some (.int (v.far (tN x y)))) := by
  refine fz_C.of (by decide) (Nat.le_of_ble_eq_true rfl) ?_
  intro p e s m args below meth c A ls X hW hl
  have hx := X.1
  have hb := X.2.1
  have hl : lv_has ls 3 [(0, .ref f), (1, .int x), (2, .int y)] := hl
  have X : fz_X p s m meth c RX3 cX3_far 3 (some .int) g A := X
  have hW : fz_W g A s (FW g f a b v u) s.heap [] := hW
  obtain ⟨i, j, ex1, ey1, hi8, hj6, etn⟩ := okT_nat hok
  refine lv_iload_n hx hb dX3_far_0 rfl (lv_at hl 1 rfl) ?_
  refine lv_iload_n hx hb dX3_far_1 rfl (lv_at hl 2 rfl) ?_
  refine fz_cSv X hW (k_X3_checkTile l g x y hok _) lk_X3_48 rfl ⟨Nat.le_of_ble_eq_true rfl, Nat.le_of_ble_eq_true rfl⟩ hl rfl (Nat.le_of_ble_eq_true rfl) dX3_far_2 ⟨Nat.le_refl _, Nat.le_refl _⟩ (fun H locs hW => ?_)
  refine lv_aload_n hx hb dX3_far_5 rfl (lv_at hl 0 rfl) ?_
  refine gf_X3_10 X hW 0 rfl rfl dX3_far_6 ?_
  refine gf_X3_74 X hW 1 rfl rfl dX3_far_9 ?_
  refine lv_iload_n hx hb dX3_far_12 rfl (lv_at hl 1 rfl) ?_
  refine lv_iload_n hx hb dX3_far_13 rfl (lv_at hl 2 rfl) ?_
  refine fz_cSi X hW (c_X3_tileAt l g _ _ _) lk_X3_55 rfl ⟨Nat.le_of_ble_eq_true rfl, Nat.le_of_ble_eq_true rfl⟩ hl rfl (Nat.le_of_ble_eq_true rfl) dX3_far_14 ⟨Nat.le_refl _, Nat.le_refl _⟩ (fun H locs hW => ?_)
  refine fz_il X hW 3 (8 * j + i) rfl (by rw [ex1, ey1]; exact fz_tl _ _) (by omega) (by decide) dX3_far_17 ?_
  exact fz_ri X (fz_cast (rfl) hW) (by rw [etn]) dX3_far_18
set_option maxHeartbeats 4000000 in
set_option maxRecDepth 100000 in
theorem k_X3_since (l : Launch) (g : GG) (f : Nat) (a b : Nat → Nat) (v u : SV) (x y : Int32) (hok : okT x y) : fz_C l g yX3_since cX3_since 3 (some .int) 7 111 [.ref f, .int x, .int y] (FW g f a b v u) (FW g f a b v u) (some (.int (v.since (tN x y)))) := by
  refine fz_C.of (by decide) (Nat.le_of_ble_eq_true rfl) ?_
  intro p e s m args below meth c A ls X hW hl
  have hx := X.1
  have hb := X.2.1
  have hl : lv_has ls 3 [(0, .ref f), (1, .int x), (2, .int y)] := hl
  have X : fz_X p s m meth c RX3 cX3_since 3 (some .int) g A := X
  have hW : fz_W g A s (FW g f a b v u) s.heap [] := hW
  obtain ⟨i, j, ex1, ey1, hi8, hj6, etn⟩ := okT_nat hok
  refine lv_iload_n hx hb dX3_since_0 rfl (lv_at hl 1 rfl) ?_
  refine lv_iload_n hx hb dX3_since_1 rfl (lv_at hl 2 rfl) ?_
  refine fz_cSv X hW (k_X3_checkTile l g x y hok _) lk_X3_48 rfl ⟨Nat.le_of_ble_eq_true rfl, Nat.le_of_ble_eq_true rfl⟩ hl rfl (Nat.le_of_ble_eq_true rfl) dX3_since_2 ⟨Nat.le_refl _, Nat.le_refl _⟩ (fun H locs hW => ?_)
  refine lv_aload_n hx hb dX3_since_5 rfl (lv_at hl 0 rfl) ?_
  refine gf_X3_10 X hW 0 rfl rfl dX3_since_6 ?_
  refine gf_X3_80 X hW 1 rfl rfl dX3_since_9 ?_
  refine lv_iload_n hx hb dX3_since_12 rfl (lv_at hl 1 rfl) ?_
  refine lv_iload_n hx hb dX3_since_13 rfl (lv_at hl 2 rfl) ?_
  refine fz_cSi X hW (c_X3_tileAt l g _ _ _) lk_X3_55 rfl ⟨Nat.le_of_ble_eq_true rfl, Nat.le_of_ble_eq_true rfl⟩ hl rfl (Nat.le_of_ble_eq_true rfl) dX3_since_14 ⟨Nat.le_refl _, Nat.le_refl _⟩ (fun H locs hW => ?_)
  refine fz_il X hW 4 (8 * j + i) rfl (by rw [ex1, ey1]; exact fz_tl _ _) (by omega) (by decide) dX3_since_17 ?_
  exact fz_ri X (fz_cast (rfl) hW) (by rw [etn]) dX3_since_18
set_option maxHeartbeats 4000000 in
set_option maxRecDepth 100000 in
theorem k_X3_kind (l : Launch) (g : GG) (f : Nat) (a b : Nat → Nat) (v u : SV) (x y : Int32) (hok : okT x y) : fz_C l g yX3_kind cX3_kind 3 (some .int) 7 111 [.ref f, .int x, .int y] (FW g f a b v u) (FW g f a b v u) (some (.int (kdI v (tN x y)))) := by
  refine fz_C.of (by decide) (Nat.le_of_ble_eq_true rfl) ?_
  intro p e s m args below meth c A ls X hW hl
  have hx := X.1
  have hb := X.2.1
  have hl : lv_has ls 3 [(0, .ref f), (1, .int x), (2, .int y)] := hl
  have X : fz_X p s m meth c RX3 cX3_kind 3 (some .int) g A := X
  have hW : fz_W g A s (FW g f a b v u) s.heap [] := hW
  obtain ⟨i, j, ex1, ey1, hi8, hj6, etn⟩ := okT_nat hok
  refine lv_iload_n hx hb dX3_kind_0 rfl (lv_at hl 1 rfl) ?_
  refine lv_iload_n hx hb dX3_kind_1 rfl (lv_at hl 2 rfl) ?_
  refine fz_cSv X hW (k_X3_checkTile l g x y hok _) lk_X3_48 rfl ⟨Nat.le_of_ble_eq_true rfl, Nat.le_of_ble_eq_true rfl⟩ hl rfl (Nat.le_of_ble_eq_true rfl) dX3_kind_2 ⟨Nat.le_refl _, Nat.le_refl _⟩ (fun H locs hW => ?_)
  refine lv_aload_n hx hb dX3_kind_5 rfl (lv_at hl 0 rfl) ?_
  refine gf_X3_10 X hW 0 rfl rfl dX3_kind_6 ?_
  refine lv_iload_n hx hb dX3_kind_9 rfl (lv_at hl 1 rfl) ?_
  refine lv_iload_n hx hb dX3_kind_10 rfl (lv_at hl 2 rfl) ?_
  refine fz_cSi X hW (c_X3_tileAt l g _ _ _) lk_X3_55 rfl ⟨Nat.le_of_ble_eq_true rfl, Nat.le_of_ble_eq_true rfl⟩ hl rfl (Nat.le_of_ble_eq_true rfl) dX3_kind_11 ⟨Nat.le_refl _, Nat.le_refl _⟩ (fun H locs hW => ?_)
  refine fz_top (x' := nI (8 * j + i)) (by rw [ex1, ey1]; exact fz_tl _ _) ?_
  refine fz_cVi X hW (cf_kindOf l g f a b v u (8 * j + i) (by omega)) lk_X3_77 (ci := 2) (q0 := 1) rfl rfl rfl rfl ⟨Nat.le_of_ble_eq_true rfl, Nat.le_of_ble_eq_true rfl⟩ hl rfl (Nat.le_of_ble_eq_true rfl) dX3_kind_14 ⟨Nat.le_refl _, Nat.le_refl _⟩ (fun H locs hW => ?_)
  exact fz_ri X (fz_cast (rfl) hW) (by rw [etn]) dX3_kind_17
set_option maxHeartbeats 4000000 in
set_option maxRecDepth 100000 in
theorem k_X3_look (l : Launch) (g : GG) (f : Nat) (a b : Nat → Nat) (v u : SV) (x y : Int32) (hok : okT x y) : fz_C l g yX3_look cX3_look 4 (some .int) 7 111 [.ref f, .int x, .int y] (FW g f a b v u) (FW g f a b (v.laS (tN x y)) u) (some (.int (nI v.la))) := by
  refine fz_C.of (by decide) (Nat.le_of_ble_eq_true rfl) ?_
  intro p e s m args below meth c A ls X hW hl
  have hx := X.1
  have hb := X.2.1
  have hl : lv_has ls 4 [(0, .ref f), (1, .int x), (2, .int y)] := hl
  have X : fz_X p s m meth c RX3 cX3_look 4 (some .int) g A := X
  have hW : fz_W g A s (FW g f a b v u) s.heap [] := hW
  obtain ⟨i, j, ex1, ey1, hi8, hj6, etn⟩ := okT_nat hok
  refine lv_iload_n hx hb dX3_look_0 rfl (lv_at hl 1 rfl) ?_
  refine lv_iload_n hx hb dX3_look_1 rfl (lv_at hl 2 rfl) ?_
  refine fz_cSv X hW (k_X3_checkTile l g x y hok _) lk_X3_48 rfl ⟨Nat.le_of_ble_eq_true rfl, Nat.le_of_ble_eq_true rfl⟩ hl rfl (Nat.le_of_ble_eq_true rfl) dX3_look_2 ⟨Nat.le_refl _, Nat.le_refl _⟩ (fun H locs hW => ?_)
  refine lv_aload_n hx hb dX3_look_5 rfl (lv_at hl 0 rfl) ?_
  refine gf_X3_10 X hW 0 rfl rfl dX3_look_6 ?_
  refine gf_X3_52 X hW 1 rfl rfl dX3_look_9 ?_
  refine lv_istore_n (lv' := [(3, .int (nI v.la)), (0, .ref f), (1, .int x), (2, .int y)]) hx hb dX3_look_12 rfl hl (by decide) rfl (fun ls hl => ?_)
  refine lv_aload_n hx hb dX3_look_13 rfl (lv_at hl 1 rfl) ?_
  refine gf_X3_10 X hW 0 rfl rfl dX3_look_14 ?_
  refine lv_iload_n hx hb dX3_look_17 rfl (lv_at hl 2 rfl) ?_
  refine lv_iload_n hx hb dX3_look_18 rfl (lv_at hl 3 rfl) ?_
  refine fz_cSi X hW (c_X3_tileAt l g _ _ _) lk_X3_55 rfl ⟨Nat.le_of_ble_eq_true rfl, Nat.le_of_ble_eq_true rfl⟩ hl rfl (Nat.le_of_ble_eq_true rfl) dX3_look_19 ⟨Nat.le_refl _, Nat.le_refl _⟩ (fun H locs hW => ?_)
  refine fz_top (x' := nI (tN x y)) (by rw [etn, ex1, ey1]; exact fz_tl _ _) ?_
  refine pf_X3_52 X hW 1 rfl (Nat.le_of_ble_eq_true rfl) dX3_look_22 (fun H locs hW => ?_)
  refine lv_iload_n hx hb dX3_look_25 rfl (lv_at hl 0 rfl) ?_
  exact fz_ri X (fz_cast (rfl) hW) (rfl) dX3_look_26
set_option maxHeartbeats 4000000 in
set_option maxRecDepth 100000 in
theorem k_X3_step (l : Launch) (g : GG) (f : Nat) (a b : Nat → Nat) (v u : SV) (x : Int32) (hok : okG x) (hwm : v.wm ≤ 4) (hkc : v.kc ≤ 8) (hm : ∀ j, j < v.wm → MOK (v.mv j)) : fz_C l g yX3_step cX3_step 2 (some .int) 7 145 [.ref f, .int x] (FW g f a b v u) (FW g f a b (psV v x) u) (some (.int (psA v x).1)) := by
  refine fz_C.of (by decide) (Nat.le_of_ble_eq_true rfl) ?_
  intro p e s m args below meth c A ls X hW hl
  have hx := X.1
  have hb := X.2.1
  have hl : lv_has ls 2 [(0, .ref f), (1, .int x)] := hl
  have X : fz_X p s m meth c RX3 cX3_step 2 (some .int) g A := X
  have hW : fz_W g A s (FW g f a b v u) s.heap [] := hW
  refine lv_iload_n hx hb dX3_step_0 rfl (lv_at hl 1 rfl) ?_
  refine fz_cSv X hW (k_X3_checkBudget l g x hok _) lk_X3_59 rfl ⟨Nat.le_of_ble_eq_true rfl, Nat.le_of_ble_eq_true rfl⟩ hl rfl (Nat.le_of_ble_eq_true rfl) dX3_step_1 ⟨Nat.le_refl _, Nat.le_refl _⟩ (fun H locs hW => ?_)
  refine lv_aload_n hx hb dX3_step_4 rfl (lv_at hl 0 rfl) ?_
  refine gf_X3_10 X hW 0 rfl rfl dX3_step_5 ?_
  refine lv_iload_n hx hb dX3_step_8 rfl (lv_at hl 1 rfl) ?_
  refine fz_cVi X hW (cf_passStep l g f a b v u x hwm hkc hm) lk_X3_63 (ci := 2) (q0 := 1) rfl rfl rfl rfl ⟨Nat.le_of_ble_eq_true rfl, Nat.le_of_ble_eq_true rfl⟩ hl rfl (Nat.le_of_ble_eq_true rfl) dX3_step_9 ⟨Nat.le_refl _, Nat.le_refl _⟩ (fun H locs hW => ?_)
  exact fz_ri X (fz_cast (rfl) hW) (rfl) dX3_step_12
set_option maxHeartbeats 4000000 in
set_option maxRecDepth 100000 in
theorem k_X3_known (l : Launch) (g : GG) (f : Nat) (a b : Nat → Nat) (v u : SV) (x : Int32) (hkc : v.kc ≤ 8) (h0 : ¬ x < 0) (hx8 : x < nI v.kc) : fz_C l g yX3_known cX3_known 2 (some .int) 6 90 [.ref f, .int x] (FW g f a b v u) (FW g f a b v u) (some (.int (v.kp x.toNatClampNeg))) := by
  refine fz_C.of (by decide) (Nat.le_of_ble_eq_true rfl) ?_
  intro p e s m args below meth c A ls X hW hl
  have hx := X.1
  have hb := X.2.1
  have hl : lv_has ls 2 [(0, .ref f), (1, .int x)] := hl
  have X : fz_X p s m meth c RX3 cX3_known 2 (some .int) g A := X
  have hW : fz_W g A s (FW g f a b v u) s.heap [] := hW
  refine lv_iload_n hx hb dX3_known_0 rfl (lv_at hl 1 rfl) ?_
  refine lv_if_lt (tgt := 18) hx hb dX3_known_1 (by decide) (fun c1 => ?_) (fun c1 => ?_)
  · exact absurd c1 h0
  · skip
    refine lv_iload_n hx hb dX3_known_4 rfl (lv_at hl 1 rfl) ?_
    refine lv_aload_n hx hb dX3_known_5 rfl (lv_at hl 0 rfl) ?_
    refine gf_X3_10 X hW 0 rfl rfl dX3_known_6 ?_
    refine gf_X3_90 X hW 1 rfl rfl dX3_known_9 ?_
    refine gf_X3_94 X hW 10 rfl rfl dX3_known_12 ?_
    refine lv_icmp_lt (tgt := 28) hx hb dX3_known_15 (by decide) (fun c15 => ?_) (fun c15 => ?_)
    · skip
      obtain ⟨i, hi, ei⟩ := nI_of c1
      have hi8 : i < v.kc := (nI_ltI (a := i) (b := v.kc) hi (by omega)).mp (by rw [← ei]; exact c15)
      refine lv_aload_n hx hb dX3_known_28 rfl (lv_at hl 0 rfl) ?_
      refine gf_X3_10 X hW 0 rfl rfl dX3_known_29 ?_
      refine gf_X3_90 X hW 1 rfl rfl dX3_known_32 ?_
      refine gf_X3_104 X hW 10 rfl rfl dX3_known_35 ?_
      refine lv_iload_n hx hb dX3_known_38 rfl (lv_at hl 1 rfl) ?_
      refine fz_il X hW 11 (i) rfl ei (by omega) (by decide) dX3_known_39 ?_
      exact fz_ri X (fz_cast (rfl) hW) (by rw [ei, nI_clamp hi]) dX3_known_40
    · exact absurd hx8 c15
set_option maxHeartbeats 4000000 in
set_option maxRecDepth 100000 in
theorem k_X3_sent (l : Launch) (g : GG) (f : Nat) (a b : Nat → Nat) (v u : SV) (x : Int32) (h0 : ¬ x < 0) (h4 : x < 4) : fz_C l g yX3_sent cX3_sent 2 (some .int) 6 90 [.ref f, .int x] (FW g f a b v u) (FW g f a b v u) (some (.int (v.sc x.toNatClampNeg))) := by
  refine fz_C.of (by decide) (Nat.le_of_ble_eq_true rfl) ?_
  intro p e s m args below meth c A ls X hW hl
  have hx := X.1
  have hb := X.2.1
  have hl : lv_has ls 2 [(0, .ref f), (1, .int x)] := hl
  have X : fz_X p s m meth c RX3 cX3_sent 2 (some .int) g A := X
  have hW : fz_W g A s (FW g f a b v u) s.heap [] := hW
  refine lv_iload_n hx hb dX3_sent_0 rfl (lv_at hl 1 rfl) ?_
  refine lv_if_lt (tgt := 9) hx hb dX3_sent_1 (by decide) (fun c1 => ?_) (fun c1 => ?_)
  · exact absurd c1 h0
  · skip
    refine lv_iload_n hx hb dX3_sent_4 rfl (lv_at hl 1 rfl) ?_
    refine lv_iconst (v := 4) hx hb dX3_sent_5 (by decide) ?_
    refine lv_icmp_lt (tgt := 19) hx hb dX3_sent_6 (by decide) (fun c6 => ?_) (fun c6 => ?_)
    · skip
      obtain ⟨i, hi, ei⟩ := nI_of c1
      have hi8 : i < 4 := (nI_ltI (a := i) (b := 4) hi (by omega)).mp (by rw [← ei]; exact c6)
      refine lv_aload_n hx hb dX3_sent_19 rfl (lv_at hl 0 rfl) ?_
      refine gf_X3_10 X hW 0 rfl rfl dX3_sent_20 ?_
      refine gf_X3_109 X hW 1 rfl rfl dX3_sent_23 ?_
      refine lv_iload_n hx hb dX3_sent_26 rfl (lv_at hl 1 rfl) ?_
      refine fz_il X hW 12 (i) rfl ei (by omega) (by decide) dX3_sent_27 ?_
      exact fz_ri X (fz_cast (rfl) hW) (by rw [ei, nI_clamp hi]) dX3_sent_28
    · exact absurd h4 c6
