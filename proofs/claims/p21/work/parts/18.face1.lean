set_option maxHeartbeats 4000000 in
set_option maxRecDepth 100000 in
theorem c_X3_near (l : Launch) (hfl : l.stackTraces = false) (g : GG) (f : Nat) (a b : Nat → Nat) (v u : SV) (x y : Int32) : fz_CX l g yX3_near cX3_near 3 (some .int) 7 1 6 111 [.ref f, .int x, .int y] (FW g f a b v u) (FW g f a b v u) (some (.int (v.near (tN x y)))) (exT x y) := by
  refine fz_CX.of (by decide) (Nat.le_of_ble_eq_true rfl) ?_
  intro p e s m args below meth c A ls X Y htab hW hl
  have hx := X.1
  have hb := X.2.1
  have hl : lv_has ls 3 [(0, .ref f), (1, .int x), (2, .int y)] := hl
  have X : fz_X p s m meth c RX3 cX3_near 3 (some .int) g A := X
  have hW : fz_W g A s (FW g f a b v u) s.heap [] := hW
  refine lv_iload_n hx hb dX3_near_0 rfl (lv_at hl 1 rfl) ?_
  refine lv_iload_n hx hb dX3_near_1 rfl (lv_at hl 2 rfl) ?_
  refine fz_xc X Y htab hW (c_X3_checkTile l hfl g x y _) lk_X3_48 (fun E k => k) rfl ⟨Nat.le_of_ble_eq_true rfl, Nat.le_of_ble_eq_true rfl⟩ hl rfl (Nat.le_of_ble_eq_true rfl) dX3_near_2 ⟨Nat.le_of_ble_eq_true rfl, Nat.le_of_ble_eq_true rfl⟩ ⟨Nat.le_of_ble_eq_true rfl, Nat.le_of_ble_eq_true rfl⟩ (fun H locs hx2 hW => ?_)
  obtain ⟨i, j, ex1, ey1, hi8, hj6, etn⟩ := okT_nat (ex_n hx2)
  have hnone := hx2
  refine lv_aload_n hx hb dX3_near_5 rfl (lv_at hl 0 rfl) ?_
  refine gf_X3_10 X hW 0 rfl rfl dX3_near_6 ?_
  refine gf_X3_70 X hW 1 rfl rfl dX3_near_9 ?_
  refine lv_iload_n hx hb dX3_near_12 rfl (lv_at hl 1 rfl) ?_
  refine lv_iload_n hx hb dX3_near_13 rfl (lv_at hl 2 rfl) ?_
  refine fz_cSi X hW (c_X3_tileAt l g _ _ _) lk_X3_55 rfl ⟨Nat.le_of_ble_eq_true rfl, Nat.le_of_ble_eq_true rfl⟩ hl rfl (Nat.le_of_ble_eq_true rfl) dX3_near_14 ⟨Nat.le_of_ble_eq_true rfl, Nat.le_of_ble_eq_true rfl⟩ (fun H locs hW => ?_)
  refine fz_il X hW 2 (8 * j + i) rfl (by rw [ex1, ey1]; exact fz_tl _ _) (by omega) (by decide) dX3_near_17 ?_
  exact fz_xri X (fz_cast (rfl) hW) (hnone) (by rw [etn]) ⟨Nat.le_of_ble_eq_true rfl, Nat.le_of_ble_eq_true rfl⟩ dX3_near_18
set_option maxHeartbeats 4000000 in
set_option maxRecDepth 100000 in
theorem c_X3_far (l : Launch) (hfl : l.stackTraces = false) (g : GG) (f : Nat) (a b : Nat → Nat) (v u : SV) (x y : Int32) : fz_CX l g yX3_far cX3_far 3 (some .int) 7 1 6 111 [.ref f, .int x, .int y] (FW g f a b v u) (FW g f a b v u) (some (.int (v.far (tN x y)))) (exT x y) := by
  refine fz_CX.of (by decide) (Nat.le_of_ble_eq_true rfl) ?_
  intro p e s m args below meth c A ls X Y htab hW hl
  have hx := X.1
  have hb := X.2.1
  have hl : lv_has ls 3 [(0, .ref f), (1, .int x), (2, .int y)] := hl
  have X : fz_X p s m meth c RX3 cX3_far 3 (some .int) g A := X
  have hW : fz_W g A s (FW g f a b v u) s.heap [] := hW
  refine lv_iload_n hx hb dX3_far_0 rfl (lv_at hl 1 rfl) ?_
  refine lv_iload_n hx hb dX3_far_1 rfl (lv_at hl 2 rfl) ?_
  refine fz_xc X Y htab hW (c_X3_checkTile l hfl g x y _) lk_X3_48 (fun E k => k) rfl ⟨Nat.le_of_ble_eq_true rfl, Nat.le_of_ble_eq_true rfl⟩ hl rfl (Nat.le_of_ble_eq_true rfl) dX3_far_2 ⟨Nat.le_of_ble_eq_true rfl, Nat.le_of_ble_eq_true rfl⟩ ⟨Nat.le_of_ble_eq_true rfl, Nat.le_of_ble_eq_true rfl⟩ (fun H locs hx2 hW => ?_)
  obtain ⟨i, j, ex1, ey1, hi8, hj6, etn⟩ := okT_nat (ex_n hx2)
  have hnone := hx2
  refine lv_aload_n hx hb dX3_far_5 rfl (lv_at hl 0 rfl) ?_
  refine gf_X3_10 X hW 0 rfl rfl dX3_far_6 ?_
  refine gf_X3_74 X hW 1 rfl rfl dX3_far_9 ?_
  refine lv_iload_n hx hb dX3_far_12 rfl (lv_at hl 1 rfl) ?_
  refine lv_iload_n hx hb dX3_far_13 rfl (lv_at hl 2 rfl) ?_
  refine fz_cSi X hW (c_X3_tileAt l g _ _ _) lk_X3_55 rfl ⟨Nat.le_of_ble_eq_true rfl, Nat.le_of_ble_eq_true rfl⟩ hl rfl (Nat.le_of_ble_eq_true rfl) dX3_far_14 ⟨Nat.le_of_ble_eq_true rfl, Nat.le_of_ble_eq_true rfl⟩ (fun H locs hW => ?_)
  refine fz_il X hW 3 (8 * j + i) rfl (by rw [ex1, ey1]; exact fz_tl _ _) (by omega) (by decide) dX3_far_17 ?_
  exact fz_xri X (fz_cast (rfl) hW) (hnone) (by rw [etn]) ⟨Nat.le_of_ble_eq_true rfl, Nat.le_of_ble_eq_true rfl⟩ dX3_far_18
set_option maxHeartbeats 4000000 in
set_option maxRecDepth 100000 in
theorem c_X3_since (l : Launch) (hfl : l.stackTraces = false) (g : GG) (f : Nat) (a b : Nat → Nat) (v u : SV) (x y : Int32) : fz_CX l g yX3_since cX3_since 3 (some .int) 7 1 6 111 [.ref f, .int x, .int y] (FW g f a b v u) (FW g f a b v u) (some (.int (v.since (tN x y)))) (exT x y) := by
  refine fz_CX.of (by decide) (Nat.le_of_ble_eq_true rfl) ?_
  intro p e s m args below meth c A ls X Y htab hW hl
  have hx := X.1
  have hb := X.2.1
  have hl : lv_has ls 3 [(0, .ref f), (1, .int x), (2, .int y)] := hl
  have X : fz_X p s m meth c RX3 cX3_since 3 (some .int) g A := X
  have hW : fz_W g A s (FW g f a b v u) s.heap [] := hW
  refine lv_iload_n hx hb dX3_since_0 rfl (lv_at hl 1 rfl) ?_
  refine lv_iload_n hx hb dX3_since_1 rfl (lv_at hl 2 rfl) ?_
  refine fz_xc X Y htab hW (c_X3_checkTile l hfl g x y _) lk_X3_48 (fun E k => k) rfl ⟨Nat.le_of_ble_eq_true rfl, Nat.le_of_ble_eq_true rfl⟩ hl rfl (Nat.le_of_ble_eq_true rfl) dX3_since_2 ⟨Nat.le_of_ble_eq_true rfl, Nat.le_of_ble_eq_true rfl⟩ ⟨Nat.le_of_ble_eq_true rfl, Nat.le_of_ble_eq_true rfl⟩ (fun H locs hx2 hW => ?_)
  obtain ⟨i, j, ex1, ey1, hi8, hj6, etn⟩ := okT_nat (ex_n hx2)
  have hnone := hx2
  refine lv_aload_n hx hb dX3_since_5 rfl (lv_at hl 0 rfl) ?_
  refine gf_X3_10 X hW 0 rfl rfl dX3_since_6 ?_
  refine gf_X3_80 X hW 1 rfl rfl dX3_since_9 ?_
  refine lv_iload_n hx hb dX3_since_12 rfl (lv_at hl 1 rfl) ?_
  refine lv_iload_n hx hb dX3_since_13 rfl (lv_at hl 2 rfl) ?_
  refine fz_cSi X hW (c_X3_tileAt l g _ _ _) lk_X3_55 rfl ⟨Nat.le_of_ble_eq_true rfl, Nat.le_of_ble_eq_true rfl⟩ hl rfl (Nat.le_of_ble_eq_true rfl) dX3_since_14 ⟨Nat.le_of_ble_eq_true rfl, Nat.le_of_ble_eq_true rfl⟩ (fun H locs hW => ?_)
  refine fz_il X hW 4 (8 * j + i) rfl (by rw [ex1, ey1]; exact fz_tl _ _) (by omega) (by decide) dX3_since_17 ?_
  exact fz_xri X (fz_cast (rfl) hW) (hnone) (by rw [etn]) ⟨Nat.le_of_ble_eq_true rfl, Nat.le_of_ble_eq_true rfl⟩ dX3_since_18
set_option maxHeartbeats 4000000 in
set_option maxRecDepth 100000 in
theorem c_X3_kind (l : Launch) (hfl : l.stackTraces = false) (g : GG) (f : Nat) (a b : Nat → Nat) (v u : SV) (x y : Int32) : fz_CX l g yX3_kind cX3_kind 3 (some .int) 7 1 6 111 [.ref f, .int x, .int y] (FW g f a b v u) (FW g f a b v u) (some (.int (kdI v (tN x y)))) (exT x y) := by
  refine fz_CX.of (by decide) (Nat.le_of_ble_eq_true rfl) ?_
  intro p e s m args below meth c A ls X Y htab hW hl
  have hx := X.1
  have hb := X.2.1
  have hl : lv_has ls 3 [(0, .ref f), (1, .int x), (2, .int y)] := hl
  have X : fz_X p s m meth c RX3 cX3_kind 3 (some .int) g A := X
  have hW : fz_W g A s (FW g f a b v u) s.heap [] := hW
  refine lv_iload_n hx hb dX3_kind_0 rfl (lv_at hl 1 rfl) ?_
  refine lv_iload_n hx hb dX3_kind_1 rfl (lv_at hl 2 rfl) ?_
  refine fz_xc X Y htab hW (c_X3_checkTile l hfl g x y _) lk_X3_48 (fun E k => k) rfl ⟨Nat.le_of_ble_eq_true rfl, Nat.le_of_ble_eq_true rfl⟩ hl rfl (Nat.le_of_ble_eq_true rfl) dX3_kind_2 ⟨Nat.le_of_ble_eq_true rfl, Nat.le_of_ble_eq_true rfl⟩ ⟨Nat.le_of_ble_eq_true rfl, Nat.le_of_ble_eq_true rfl⟩ (fun H locs hx2 hW => ?_)
  obtain ⟨i, j, ex1, ey1, hi8, hj6, etn⟩ := okT_nat (ex_n hx2)
  have hnone := hx2
  refine lv_aload_n hx hb dX3_kind_5 rfl (lv_at hl 0 rfl) ?_
  refine gf_X3_10 X hW 0 rfl rfl dX3_kind_6 ?_
  refine lv_iload_n hx hb dX3_kind_9 rfl (lv_at hl 1 rfl) ?_
  refine lv_iload_n hx hb dX3_kind_10 rfl (lv_at hl 2 rfl) ?_
  refine fz_cSi X hW (c_X3_tileAt l g _ _ _) lk_X3_55 rfl ⟨Nat.le_of_ble_eq_true rfl, Nat.le_of_ble_eq_true rfl⟩ hl rfl (Nat.le_of_ble_eq_true rfl) dX3_kind_11 ⟨Nat.le_of_ble_eq_true rfl, Nat.le_of_ble_eq_true rfl⟩ (fun H locs hW => ?_)
  refine fz_top (x' := nI (8 * j + i)) (by rw [ex1, ey1]; exact fz_tl _ _) ?_
  refine fz_cVi X hW (cf_kindOf l g f a b v u (8 * j + i) (by omega)) lk_X3_77 (ci := 2) (q0 := 1) rfl rfl rfl rfl ⟨Nat.le_of_ble_eq_true rfl, Nat.le_of_ble_eq_true rfl⟩ hl rfl (Nat.le_of_ble_eq_true rfl) dX3_kind_14 ⟨Nat.le_of_ble_eq_true rfl, Nat.le_of_ble_eq_true rfl⟩ (fun H locs hW => ?_)
  exact fz_xri X (fz_cast (rfl) hW) (hnone) (by rw [etn]) ⟨Nat.le_of_ble_eq_true rfl, Nat.le_of_ble_eq_true rfl⟩ dX3_kind_17
set_option maxHeartbeats 4000000 in
set_option maxRecDepth 100000 in
theorem c_X3_look (l : Launch) (hfl : l.stackTraces = false) (g : GG) (f : Nat) (a b : Nat → Nat) (v u : SV) (x y : Int32) : fz_CX l g yX3_look cX3_look 4 (some .int) 7 1 6 111 [.ref f, .int x, .int y] (FW g f a b v u) (FW g f a b (v.laS (tN x y)) u) (some (.int (nI v.la))) (exT x y) := by
  refine fz_CX.of (by decide) (Nat.le_of_ble_eq_true rfl) ?_
  intro p e s m args below meth c A ls X Y htab hW hl
  have hx := X.1
  have hb := X.2.1
  have hl : lv_has ls 4 [(0, .ref f), (1, .int x), (2, .int y)] := hl
  have X : fz_X p s m meth c RX3 cX3_look 4 (some .int) g A := X
  have hW : fz_W g A s (FW g f a b v u) s.heap [] := hW
  refine lv_iload_n hx hb dX3_look_0 rfl (lv_at hl 1 rfl) ?_
  refine lv_iload_n hx hb dX3_look_1 rfl (lv_at hl 2 rfl) ?_
  refine fz_xc X Y htab hW (c_X3_checkTile l hfl g x y _) lk_X3_48 (fun E k => k) rfl ⟨Nat.le_of_ble_eq_true rfl, Nat.le_of_ble_eq_true rfl⟩ hl rfl (Nat.le_of_ble_eq_true rfl) dX3_look_2 ⟨Nat.le_of_ble_eq_true rfl, Nat.le_of_ble_eq_true rfl⟩ ⟨Nat.le_of_ble_eq_true rfl, Nat.le_of_ble_eq_true rfl⟩ (fun H locs hx2 hW => ?_)
  obtain ⟨i, j, ex1, ey1, hi8, hj6, etn⟩ := okT_nat (ex_n hx2)
  have hnone := hx2
  refine lv_aload_n hx hb dX3_look_5 rfl (lv_at hl 0 rfl) ?_
  refine gf_X3_10 X hW 0 rfl rfl dX3_look_6 ?_
  refine gf_X3_52 X hW 1 rfl rfl dX3_look_9 ?_
  refine lv_istore_n (lv' := [(3, .int (nI v.la)), (0, .ref f), (1, .int x), (2, .int y)]) hx hb dX3_look_12 rfl hl (by decide) rfl (fun ls hl => ?_)
  refine lv_aload_n hx hb dX3_look_13 rfl (lv_at hl 1 rfl) ?_
  refine gf_X3_10 X hW 0 rfl rfl dX3_look_14 ?_
  refine lv_iload_n hx hb dX3_look_17 rfl (lv_at hl 2 rfl) ?_
  refine lv_iload_n hx hb dX3_look_18 rfl (lv_at hl 3 rfl) ?_
  refine fz_cSi X hW (c_X3_tileAt l g _ _ _) lk_X3_55 rfl ⟨Nat.le_of_ble_eq_true rfl, Nat.le_of_ble_eq_true rfl⟩ hl rfl (Nat.le_of_ble_eq_true rfl) dX3_look_19 ⟨Nat.le_of_ble_eq_true rfl, Nat.le_of_ble_eq_true rfl⟩ (fun H locs hW => ?_)
  refine fz_top (x' := nI (tN x y)) (by rw [etn, ex1, ey1]; exact fz_tl _ _) ?_
  refine pf_X3_52 X hW 1 rfl (Nat.le_of_ble_eq_true rfl) dX3_look_22 (fun H locs hW => ?_)
  refine lv_iload_n hx hb dX3_look_25 rfl (lv_at hl 0 rfl) ?_
  exact fz_xri X (fz_cast (rfl) hW) (hnone) (rfl) ⟨Nat.le_of_ble_eq_true rfl, Nat.le_of_ble_eq_true rfl⟩ dX3_look_26
set_option maxHeartbeats 4000000 in
set_option maxRecDepth 100000 in
theorem c_X3_step (l : Launch) (hfl : l.stackTraces = false) (g : GG) (f : Nat) (a b : Nat → Nat) (v u : SV) (x : Int32) (hwm : v.wm ≤ 4) (hkc : v.kc ≤ 8) (hm : ∀ j, j < v.wm → MOK (v.mv j)) : fz_CX l g yX3_step cX3_step 2 (some .int) 7 1 6 145 [.ref f, .int x] (FW g f a b v u) (FW g f a b (psV v x) u) (some (.int (psA v x).1)) (exG x) := by
  refine fz_CX.of (by decide) (Nat.le_of_ble_eq_true rfl) ?_
  intro p e s m args below meth c A ls X Y htab hW hl
  have hx := X.1
  have hb := X.2.1
  have hl : lv_has ls 2 [(0, .ref f), (1, .int x)] := hl
  have X : fz_X p s m meth c RX3 cX3_step 2 (some .int) g A := X
  have hW : fz_W g A s (FW g f a b v u) s.heap [] := hW
  refine lv_iload_n hx hb dX3_step_0 rfl (lv_at hl 1 rfl) ?_
  refine fz_xc X Y htab hW (c_X3_checkBudget l hfl g x _) lk_X3_59 (fun E k => k) rfl ⟨Nat.le_of_ble_eq_true rfl, Nat.le_of_ble_eq_true rfl⟩ hl rfl (Nat.le_of_ble_eq_true rfl) dX3_step_1 ⟨Nat.le_of_ble_eq_true rfl, Nat.le_of_ble_eq_true rfl⟩ ⟨Nat.le_of_ble_eq_true rfl, Nat.le_of_ble_eq_true rfl⟩ (fun H locs hx1 hW => ?_)
  have hnone := hx1
  refine lv_aload_n hx hb dX3_step_4 rfl (lv_at hl 0 rfl) ?_
  refine gf_X3_10 X hW 0 rfl rfl dX3_step_5 ?_
  refine lv_iload_n hx hb dX3_step_8 rfl (lv_at hl 1 rfl) ?_
  refine fz_cVi X hW (cf_passStep l g f a b v u x hwm hkc hm) lk_X3_63 (ci := 2) (q0 := 1) rfl rfl rfl rfl ⟨Nat.le_of_ble_eq_true rfl, Nat.le_of_ble_eq_true rfl⟩ hl rfl (Nat.le_of_ble_eq_true rfl) dX3_step_9 ⟨Nat.le_of_ble_eq_true rfl, Nat.le_of_ble_eq_true rfl⟩ (fun H locs hW => ?_)
  exact fz_xri X (fz_cast (rfl) hW) (hnone) (rfl) ⟨Nat.le_of_ble_eq_true rfl, Nat.le_of_ble_eq_true rfl⟩ dX3_step_12
set_option maxHeartbeats 4000000 in
set_option maxRecDepth 100000 in
theorem c_X3_time (l : Launch) (g : GG) (f : Nat) (a b : Nat → Nat) (v u : SV) : fz_C l g yX3_time cX3_time 1 (some .int) 0 0 [.ref f] (FW g f a b v u) (FW g f a b v u) (some (.int v.now)) := by
  refine fz_C.of (by decide) (Nat.le_of_ble_eq_true rfl) ?_
  intro p e s m args below meth c A ls X hW hl
  have hx := X.1
  have hb := X.2.1
  have hl : lv_has ls 1 [(0, .ref f)] := hl
  have X : fz_X p s m meth c RX3 cX3_time 1 (some .int) g A := X
  have hW : fz_W g A s (FW g f a b v u) s.heap [] := hW
  refine lv_aload_n hx hb dX3_time_0 rfl (lv_at hl 0 rfl) ?_
  refine gf_X3_10 X hW 0 rfl rfl dX3_time_1 ?_
  refine gf_X3_67 X hW 1 rfl rfl dX3_time_4 ?_
  exact fz_ri X (fz_cast (rfl) hW) (rfl) dX3_time_7
set_option maxHeartbeats 4000000 in
set_option maxRecDepth 100000 in
theorem c_X3_unlike (l : Launch) (g : GG) (f : Nat) (a b : Nat → Nat) (v u : SV) : fz_C l g yX3_unlike cX3_unlike 1 (some .long) 1 23 [.ref f] (FW g f a b v u) (FW g f a b v u) (some (.long (usF v 48))) := by
  refine fz_C.of (by decide) (Nat.le_of_ble_eq_true rfl) ?_
  intro p e s m args below meth c A ls X hW hl
  have hx := X.1
  have hb := X.2.1
  have hl : lv_has ls 1 [(0, .ref f)] := hl
  have X : fz_X p s m meth c RX3 cX3_unlike 1 (some .long) g A := X
  have hW : fz_W g A s (FW g f a b v u) s.heap [] := hW
  refine lv_aload_n hx hb dX3_unlike_0 rfl (lv_at hl 0 rfl) ?_
  refine gf_X3_10 X hW 0 rfl rfl dX3_unlike_1 ?_
  refine fz_cVl X hW (cf_unlikeSet l g f a b v u) lk_X3_83 (ci := 2) (q0 := 1) rfl rfl rfl rfl ⟨Nat.le_of_ble_eq_true rfl, Nat.le_of_ble_eq_true rfl⟩ hl rfl (Nat.le_of_ble_eq_true rfl) dX3_unlike_4 ⟨Nat.le_refl _, Nat.le_refl _⟩ (fun H locs hW => ?_)
  exact fz_rl X (fz_cast (rfl) hW) (rfl) dX3_unlike_7
set_option maxHeartbeats 4000000 in
set_option maxRecDepth 100000 in
theorem c_X3_rough (l : Launch) (g : GG) (f : Nat) (a b : Nat → Nat) (v u : SV) : fz_C l g yX3_rough cX3_rough 1 (some .int) 1 22 [.ref f] (FW g f a b v u) (FW g f a b v u) (some (.int (crF v 48))) := by
  refine fz_C.of (by decide) (Nat.le_of_ble_eq_true rfl) ?_
  intro p e s m args below meth c A ls X hW hl
  have hx := X.1
  have hb := X.2.1
  have hl : lv_has ls 1 [(0, .ref f)] := hl
  have X : fz_X p s m meth c RX3 cX3_rough 1 (some .int) g A := X
  have hW : fz_W g A s (FW g f a b v u) s.heap [] := hW
  refine lv_aload_n hx hb dX3_rough_0 rfl (lv_at hl 0 rfl) ?_
  refine gf_X3_10 X hW 0 rfl rfl dX3_rough_1 ?_
  refine fz_cVi X hW (cf_countRough l g f a b v u) lk_X3_87 (ci := 2) (q0 := 1) rfl rfl rfl rfl ⟨Nat.le_of_ble_eq_true rfl, Nat.le_of_ble_eq_true rfl⟩ hl rfl (Nat.le_of_ble_eq_true rfl) dX3_rough_4 ⟨Nat.le_refl _, Nat.le_refl _⟩ (fun H locs hW => ?_)
  exact fz_ri X (fz_cast (rfl) hW) (rfl) dX3_rough_7
set_option maxHeartbeats 4000000 in
set_option maxRecDepth 100000 in
theorem c_X3_waiting (l : Launch) (g : GG) (f : Nat) (a b : Nat → Nat) (v u : SV) : fz_C l g yX3_waiting cX3_waiting 1 (some .int) 0 0 [.ref f] (FW g f a b v u) (FW g f a b v u) (some (.int (nI v.wm))) := by
  refine fz_C.of (by decide) (Nat.le_of_ble_eq_true rfl) ?_
  intro p e s m args below meth c A ls X hW hl
  have hx := X.1
  have hb := X.2.1
  have hl : lv_has ls 1 [(0, .ref f)] := hl
  have X : fz_X p s m meth c RX3 cX3_waiting 1 (some .int) g A := X
  have hW : fz_W g A s (FW g f a b v u) s.heap [] := hW
  refine lv_aload_n hx hb dX3_waiting_0 rfl (lv_at hl 0 rfl) ?_
  refine gf_X3_10 X hW 0 rfl rfl dX3_waiting_1 ?_
  refine gf_X3_44 X hW 1 rfl rfl dX3_waiting_4 ?_
  exact fz_ri X (fz_cast (rfl) hW) (rfl) dX3_waiting_7
set_option maxHeartbeats 4000000 in
set_option maxRecDepth 100000 in
theorem c_X3_knownPictures (l : Launch) (g : GG) (f : Nat) (a b : Nat → Nat) (v u : SV) : fz_C l g yX3_knownPictures cX3_knownPictures 1 (some .int) 0 0 [.ref f] (FW g f a b v u) (FW g f a b v u) (some (.int (nI v.kc))) := by
  refine fz_C.of (by decide) (Nat.le_of_ble_eq_true rfl) ?_
  intro p e s m args below meth c A ls X hW hl
  have hx := X.1
  have hb := X.2.1
  have hl : lv_has ls 1 [(0, .ref f)] := hl
  have X : fz_X p s m meth c RX3 cX3_knownPictures 1 (some .int) g A := X
  have hW : fz_W g A s (FW g f a b v u) s.heap [] := hW
  refine lv_aload_n hx hb dX3_knownPictures_0 rfl (lv_at hl 0 rfl) ?_
  refine gf_X3_10 X hW 0 rfl rfl dX3_knownPictures_1 ?_
  refine gf_X3_90 X hW 1 rfl rfl dX3_knownPictures_4 ?_
  refine gf_X3_94 X hW 10 rfl rfl dX3_knownPictures_7 ?_
  exact fz_ri X (fz_cast (rfl) hW) (rfl) dX3_knownPictures_10
set_option maxHeartbeats 4000000 in
set_option maxRecDepth 100000 in
theorem c_X3_used (l : Launch) (g : GG) (f : Nat) (a b : Nat → Nat) (v u : SV) : fz_C l g yX3_used cX3_used 1 (some .int) 0 0 [.ref f] (FW g f a b v u) (FW g f a b v u) (some (.int v.us)) := by
  refine fz_C.of (by decide) (Nat.le_of_ble_eq_true rfl) ?_
  intro p e s m args below meth c A ls X hW hl
  have hx := X.1
  have hb := X.2.1
  have hl : lv_has ls 1 [(0, .ref f)] := hl
  have X : fz_X p s m meth c RX3 cX3_used 1 (some .int) g A := X
  have hW : fz_W g A s (FW g f a b v u) s.heap [] := hW
  refine lv_aload_n hx hb dX3_used_0 rfl (lv_at hl 0 rfl) ?_
  refine gf_X3_10 X hW 0 rfl rfl dX3_used_1 ?_
  refine gf_X3_112 X hW 1 rfl rfl dX3_used_4 ?_
  exact fz_ri X (fz_cast (rfl) hW) (rfl) dX3_used_7
set_option maxHeartbeats 4000000 in
set_option maxRecDepth 100000 in
theorem c_X3_known (l : Launch) (hfl : l.stackTraces = false) (g : GG) (f : Nat) (a b : Nat → Nat) (v u : SV) (x : Int32) (hkc : v.kc ≤ 8) : fz_CX l g yX3_known cX3_known 2 (some .int) 6 1 6 90 [.ref f, .int x] (FW g f a b v u) (FW g f a b v u) (some (.int (v.kp x.toNatClampNeg))) (exK v.kc x) := by
  refine fz_CX.of (by decide) (Nat.le_of_ble_eq_true rfl) ?_
  intro p e s m args below meth c A ls X Y htab hW hl
  have hx := X.1
  have hb := X.2.1
  have hl : lv_has ls 2 [(0, .ref f), (1, .int x)] := hl
  have X : fz_X p s m meth c RX3 cX3_known 2 (some .int) g A := X
  have hW : fz_W g A s (FW g f a b v u) s.heap [] := hW
  refine lv_iload_n hx hb dX3_known_0 rfl (lv_at hl 1 rfl) ?_
  refine lv_if_lt (tgt := 18) hx hb dX3_known_1 (by decide) (fun c1 => ?_) (fun c1 => ?_)
  · skip
    exact fz_xt X Y htab hfl hW hl (by decide +kernel) (by decide +kernel) xk_io xi_io xm_io xg_io (List.mem_of_getElem? (i := 5) rfl) (by unfold exK; rw [if_neg (fun h => h.1 c1)]) dX3_known_18 dX3_known_21 dX3_known_22 dX3_known_24 dX3_known_27 (Nat.le_of_ble_eq_true rfl) (Nat.le_of_ble_eq_true rfl) ⟨Nat.le_of_ble_eq_true rfl, Nat.le_of_ble_eq_true rfl⟩ ⟨Nat.le_of_ble_eq_true rfl, Nat.le_of_ble_eq_true rfl⟩
  · skip
    refine lv_iload_n hx hb dX3_known_4 rfl (lv_at hl 1 rfl) ?_
    refine lv_aload_n hx hb dX3_known_5 rfl (lv_at hl 0 rfl) ?_
    refine gf_X3_10 X hW 0 rfl rfl dX3_known_6 ?_
    refine gf_X3_90 X hW 1 rfl rfl dX3_known_9 ?_
    refine gf_X3_94 X hW 10 rfl rfl dX3_known_12 ?_
    refine lv_icmp_lt (tgt := 28) hx hb dX3_known_15 (by decide) (fun c15 => ?_) (fun c15 => ?_)
    · skip
      obtain ⟨i, hi, ei⟩ := nI_of c1
      have hi8 : i < v.kc := (nI_ltI (a := i) (b := v.kc) hi (by omega)).mp (by rw [← ei]; exact c15)
      refine lv_aload_n hx hb dX3_known_28 rfl (lv_at hl 0 rfl) ?_
      refine gf_X3_10 X hW 0 rfl rfl dX3_known_29 ?_
      refine gf_X3_90 X hW 1 rfl rfl dX3_known_32 ?_
      refine gf_X3_104 X hW 10 rfl rfl dX3_known_35 ?_
      refine lv_iload_n hx hb dX3_known_38 rfl (lv_at hl 1 rfl) ?_
      refine fz_il X hW 11 (i) rfl ei (by omega) (by decide) dX3_known_39 ?_
      exact fz_xri X (fz_cast (rfl) hW) (by unfold exK; exact if_pos ⟨c1, c15⟩) (by rw [ei, nI_clamp hi]) ⟨Nat.le_of_ble_eq_true rfl, Nat.le_of_ble_eq_true rfl⟩ dX3_known_40
    · skip
      exact fz_xt X Y htab hfl hW hl (by decide +kernel) (by decide +kernel) xk_io xi_io xm_io xg_io (List.mem_of_getElem? (i := 5) rfl) (by unfold exK; rw [if_neg (fun h => c15 h.2)]) dX3_known_18 dX3_known_21 dX3_known_22 dX3_known_24 dX3_known_27 (Nat.le_of_ble_eq_true rfl) (Nat.le_of_ble_eq_true rfl) ⟨Nat.le_of_ble_eq_true rfl, Nat.le_of_ble_eq_true rfl⟩ ⟨Nat.le_of_ble_eq_true rfl, Nat.le_of_ble_eq_true rfl⟩
set_option maxHeartbeats 4000000 in
set_option maxRecDepth 100000 in
theorem c_X3_sent (l : Launch) (hfl : l.stackTraces = false) (g : GG) (f : Nat) (a b : Nat → Nat) (v u : SV) (x : Int32) : fz_CX l g yX3_sent cX3_sent 2 (some .int) 6 1 6 90 [.ref f, .int x] (FW g f a b v u) (FW g f a b v u) (some (.int (v.sc x.toNatClampNeg))) (exS x) := by
  refine fz_CX.of (by decide) (Nat.le_of_ble_eq_true rfl) ?_
  intro p e s m args below meth c A ls X Y htab hW hl
  have hx := X.1
  have hb := X.2.1
  have hl : lv_has ls 2 [(0, .ref f), (1, .int x)] := hl
  have X : fz_X p s m meth c RX3 cX3_sent 2 (some .int) g A := X
  have hW : fz_W g A s (FW g f a b v u) s.heap [] := hW
  refine lv_iload_n hx hb dX3_sent_0 rfl (lv_at hl 1 rfl) ?_
  refine lv_if_lt (tgt := 9) hx hb dX3_sent_1 (by decide) (fun c1 => ?_) (fun c1 => ?_)
  · skip
    exact fz_xt X Y htab hfl hW hl (by decide +kernel) (by decide +kernel) xk_ia xi_ia xm_ia xg_ia (List.mem_of_getElem? (i := 6) rfl) (by unfold exS; rw [if_neg (fun h => h.1 c1)]) dX3_sent_9 dX3_sent_12 dX3_sent_13 dX3_sent_15 dX3_sent_18 (Nat.le_of_ble_eq_true rfl) (Nat.le_of_ble_eq_true rfl) ⟨Nat.le_of_ble_eq_true rfl, Nat.le_of_ble_eq_true rfl⟩ ⟨Nat.le_of_ble_eq_true rfl, Nat.le_of_ble_eq_true rfl⟩
  · skip
    refine lv_iload_n hx hb dX3_sent_4 rfl (lv_at hl 1 rfl) ?_
    refine lv_iconst (v := 4) hx hb dX3_sent_5 (by decide) ?_
    refine lv_icmp_lt (tgt := 19) hx hb dX3_sent_6 (by decide) (fun c6 => ?_) (fun c6 => ?_)
    · skip
      obtain ⟨i, hi, ei⟩ := nI_of c1
      have hi8 : i < 4 := (nI_ltI (a := i) (b := 4) hi (by omega)).mp (by rw [← ei]; exact c6)
      refine lv_aload_n hx hb dX3_sent_19 rfl (lv_at hl 0 rfl) ?_
      refine gf_X3_10 X hW 0 rfl rfl dX3_sent_20 ?_
      refine gf_X3_109 X hW 1 rfl rfl dX3_sent_23 ?_
      refine lv_iload_n hx hb dX3_sent_26 rfl (lv_at hl 1 rfl) ?_
      refine fz_il X hW 12 (i) rfl ei (by omega) (by decide) dX3_sent_27 ?_
      exact fz_xri X (fz_cast (rfl) hW) (by unfold exS; exact if_pos ⟨c1, c6⟩) (by rw [ei, nI_clamp hi]) ⟨Nat.le_of_ble_eq_true rfl, Nat.le_of_ble_eq_true rfl⟩ dX3_sent_28
    · skip
      exact fz_xt X Y htab hfl hW hl (by decide +kernel) (by decide +kernel) xk_ia xi_ia xm_ia xg_ia (List.mem_of_getElem? (i := 6) rfl) (by unfold exS; rw [if_neg (fun h => c6 h.2)]) dX3_sent_9 dX3_sent_12 dX3_sent_13 dX3_sent_15 dX3_sent_18 (Nat.le_of_ble_eq_true rfl) (Nat.le_of_ble_eq_true rfl) ⟨Nat.le_of_ble_eq_true rfl, Nat.le_of_ble_eq_true rfl⟩ ⟨Nat.le_of_ble_eq_true rfl, Nat.le_of_ble_eq_true rfl⟩
def anF (v : SV) : Nat → Int32
  | 0 => 0
  | t + 1 => anF v t + wcI (v.near t)
set_option maxHeartbeats 4000000 in
set_option maxRecDepth 100000 in
theorem c_X3_anew (l : Launch) (g : GG) (f : Nat) (a b : Nat → Nat) (v u : SV) : fz_C l g yX3_anew cX3_anew 3 (some .int) 1 20 [.ref f] (FW g f a b v u) (FW g f a b v u) (some (.int (anF v 48))) := by
  refine fz_C.of (by decide) (Nat.le_of_ble_eq_true rfl) ?_
  intro p e s m args below meth c A ls X hW hl
  have hx := X.1
  have hb := X.2.1
  have hl : lv_has ls 3 [(0, .ref f)] := hl
  have X : fz_X p s m meth c RX3 cX3_anew 3 (some .int) g A := X
  have hW : fz_W g A s (FW g f a b v u) s.heap [] := hW
  refine lv_iconst (v := 0) hx hb dX3_anew_0 (by decide) ?_
  refine lv_istore_n (lv' := [(1, .int 0), (0, .ref f)]) hx hb dX3_anew_1 rfl hl (by decide) rfl (fun ls hl => ?_)
  refine lv_iconst (v := 0) hx hb dX3_anew_2 (by decide) ?_
  refine lv_istore_n (lv' := [(2, .int 0), (1, .int 0), (0, .ref f)]) hx hb dX3_anew_3 rfl hl (by decide) rfl (fun ls hl => ?_)
  have loop4 : ∀ (k : Nat) (t : Nat) (z : Int32), t ≤ 48 → 48 < t + k → z = anF v t → ∀ (H : Heap) (locs : List Loc) (ls : Array Slot), fz_W g A s (FW g f a b v u) H locs → lv_has ls 3 [(0, .ref f), (1, .int z), (2, .int (nI t))] → W p l e (fz_R 1 0 0 20) s m args below meth c H locs 0 0 (MQ below (fz_Q g (FW g f a b v u) (some (.int (anF v 48))) A) args s 0 0 A) (F0 m 4 ls []) := by
    intro k
    induction k with
    | zero =>
      intro t z ht hk
      omega
    | succ k ih4 =>
      intro t z ht hk hz H locs ls hW hl
      refine lv_iload_n hx hb dX3_anew_4 rfl (lv_at hl 2 rfl) ?_
      refine lv_bipush (v := 48) hx hb dX3_anew_5 (by decide) ?_
      refine lv_icmp_ge (tgt := 31) hx hb dX3_anew_7 (by decide) (fun c7 => ?_) (fun c7 => ?_)
      · skip
        have h7 : 48 ≤ t := (nI_leI (a := 48) (b := t) (by omega) (by omega)).mp c7
        have e7 : t = 48 := by omega
        have hl := lv_sub hl [0, 1] rfl
        have hl : lv_has ls 3 [(0, .ref f), (1, .int z)] := hl
        refine lv_iload_n hx hb dX3_anew_31 rfl (lv_at hl 1 rfl) ?_
        exact fz_ri X (fz_cast (rfl) hW) (by rw [hz, e7]) dX3_anew_32
      · skip
        have h7 : t < 48 := Nat.not_le.mp (fun z => c7 ((nI_leI (a := 48) (b := t) (by omega) (by omega)).mpr z))
        refine lv_iload_n hx hb dX3_anew_10 rfl (lv_at hl 1 rfl) ?_
        refine lv_aload_n hx hb dX3_anew_11 rfl (lv_at hl 0 rfl) ?_
        refine gf_X3_10 X hW 0 rfl rfl dX3_anew_12 ?_
        refine gf_X3_70 X hW 1 rfl rfl dX3_anew_15 ?_
        refine lv_iload_n hx hb dX3_anew_18 rfl (lv_at hl 2 rfl) ?_
        refine fz_il X hW 2 (t) rfl rfl (by omega) (by decide) dX3_anew_19 ?_
        refine fz_cSi X hW (c_X3_wholeCost l g (v.near t) _) lk_X3_115 rfl ⟨Nat.le_of_ble_eq_true rfl, Nat.le_of_ble_eq_true rfl⟩ hl rfl (Nat.le_of_ble_eq_true rfl) dX3_anew_20 ⟨Nat.le_refl _, Nat.le_refl _⟩ (fun H locs hW => ?_)
        refine lv_iadd hx hb dX3_anew_23 ?_
        refine lv_istore_n (lv' := [(1, .int (z + (wcI (v.near t)))), (0, .ref f), (2, .int (nI t))]) hx hb dX3_anew_24 rfl hl (by decide) rfl (fun ls hl => ?_)
        refine lv_iinc (v := nI (t + 1)) (lv' := [(2, .int (nI (t + 1))), (1, .int (z + (wcI (v.near t)))), (0, .ref f)]) hx hb dX3_anew_25 hl (k := 2) rfl (nI_1 _) (by decide) rfl (fun ls hl => ?_)
        refine lv_goto (tgt := 4) hx hb dX3_anew_28 (by decide) ?_
        exact ih4 (t + 1) (z + wcI (v.near t)) (by omega) (by omega) (by rw [hz]; rfl) _ _ _ (fz_cast (rfl) hW) (lv_sub hl [2, 1, 0] rfl)
  exact loop4 49 0 0 (by omega) (by omega) rfl _ _ _ (fz_cast (rfl) hW) (lv_sub hl [2, 1, 0] rfl)
