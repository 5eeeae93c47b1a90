/-! the law catches what its calls throw -/
theorem cd2_io : cd2 XIO = 1 := if_pos rfl
theorem cd2_ia : cd2 XIA = 2 := if_neg (by decide)
theorem ii_L : fz_M (.initialized RL) := ⟨List.mem_of_getElem? (i := 29) (by decide +kernel), by decide +kernel⟩
set_option maxHeartbeats 4000000 in
set_option maxRecDepth 100000 in
theorem h_fill (l : Launch) (hfl : l.stackTraces = false) (g : GG) (f : Nat) (a d : Nat → Nat) (v u : SV) (q : Nat) (lf : Nat → Int64) (x y w z i : Int32) (W1 : va_W) (r : Int32) (h0 : exF x y w z i = none → W1 = FW g f a d (paV v x.toNatClampNeg y.toNatClampNeg w.toNatClampNeg z.toNatClampNeg i) (u) ++ [LR g q (vp_updL lf 0 (bcL (usF (paV v x.toNatClampNeg y.toNatClampNeg w.toNatClampNeg z.toNatClampNeg i) 48)).toInt64)] ∧ r = 0) (h1 : ∀ E, exF x y w z i = some E → W1 = FW g f a d v u ++ [LR g q lf] ∧ r = cd2 E) : fz_CH l g yL_fill cL_fill 8 [(0, 16, 19, 13), (0, 16, 23, 15)] 9 3 18 159 [.ref f, .int x, .int y, .int w, .int z, .int i, .ref q] (FW g f a d v u ++ [LR g q lf]) W1 r := by
  refine fz_CH.of (by decide) (Nat.le_of_ble_eq_true rfl) ?_
  intro p e s m args below meth c A ls X Y hN htab hW hl
  have hx := X.1
  have hb := X.2.1
  have hl : lv_has ls 8 [(0, .ref f), (1, .int x), (2, .int y), (3, .int w), (4, .int z), (5, .int i), (6, .ref q)] := hl
  have X : fz_X p s m meth c RL cL_fill 8 (some .int) g A := X
  have hW : fz_W g A s (FW g f a d v u ++ [LR g q lf]) s.heap [] := hW
  refine lv_aload hx hb dL_fill_0 (lv_at hl 6 rfl) ?_
  refine lv_iconst (v := 0) hx hb dL_fill_2 (by decide) ?_
  refine lv_aload_n hx hb dL_fill_3 rfl (lv_at hl 0 rfl) ?_
  refine lv_iload_n hx hb dL_fill_4 rfl (lv_at hl 1 rfl) ?_
  refine lv_iload_n hx hb dL_fill_5 rfl (lv_at hl 2 rfl) ?_
  refine lv_iload_n hx hb dL_fill_6 rfl (lv_at hl 3 rfl) ?_
  refine lv_iload hx hb dL_fill_7 (lv_at hl 4 rfl) ?_
  refine lv_iload hx hb dL_fill_9 (lv_at hl 5 rfl) ?_
  refine fz_cVX X Y hW (fz_CX.lr (c_X3_fill l hfl g f a d v u x y w z i) q lf) lk_L_7 (ci := 3) (q0 := 0) rfl rfl rfl rfl ⟨(Nat.le_of_ble_eq_true rfl), (Nat.le_of_ble_eq_true rfl)⟩ hl rfl (Nat.le_of_ble_eq_true rfl) dL_fill_11 ⟨(Nat.le_of_ble_eq_true rfl), (Nat.le_of_ble_eq_true rfl)⟩ (fun E q9 ce H locs hex hW hc1 hc2 hc3 => ?_) (fun H locs hex hW => ?_)
  · skip
    rcases exF_E hex with eE | eE
    · subst eE
      refine vx_catch (own := RL) (name := XIO) X.2.2.2.2.1 [] ⟨0, 16, 19, 13⟩ [⟨0, 16, 23, 15⟩] htab (fun z hz => absurd hz List.not_mem_nil) (by decide) (by decide) (X.2.2.2.2.2.2.1.use xl_io args) (X.2.2.2.2.2.2.1.use xs_io args) hc1 hc2 hc3 (show W p l e _ s m args below meth c _ _ _ _ _ (F0 m 19 ls [.ref q9]) from ?_)
      refine lv_astore (lv' := [(7, .ref q9), (0, .ref f), (1, .int x), (2, .int y), (3, .int w), (4, .int z), (5, .int i), (6, .ref q)]) hx hb dL_fill_19 hl (by decide) rfl (fun ls hl => ?_)
      refine lv_iconst (v := 1) hx hb dL_fill_21 (by decide) ?_
      exact fz_rw X (fz_cast (h1 _ hex).1.symm hW) ((h1 _ hex).2.trans cd2_io).symm ⟨(Nat.le_of_ble_eq_true rfl), (Nat.le_of_ble_eq_true rfl)⟩ dL_fill_22
    · subst eE
      refine vx_catch (own := RL) (name := XIA) X.2.2.2.2.1 [⟨0, 16, 19, 13⟩] ⟨0, 16, 23, 15⟩ [] htab (fun z hz => Or.inr (by rw [List.mem_singleton.mp hz]; exact ⟨by decide, XIO, X.2.2.2.2.2.2.1.use xl_io args, hN⟩)) (by decide) (by decide) (X.2.2.2.2.2.2.1.use xl_ia args) (X.2.2.2.2.2.2.1.use xs_ia args) hc1 hc2 hc3 (show W p l e _ s m args below meth c _ _ _ _ _ (F0 m 23 ls [.ref q9]) from ?_)
      refine lv_astore (lv' := [(7, .ref q9), (0, .ref f), (1, .int x), (2, .int y), (3, .int w), (4, .int z), (5, .int i), (6, .ref q)]) hx hb dL_fill_23 hl (by decide) rfl (fun ls hl => ?_)
      refine lv_iconst (v := 2) hx hb dL_fill_25 (by decide) ?_
      exact fz_rw X (fz_cast (h1 _ hex).1.symm hW) ((h1 _ hex).2.trans cd2_ia).symm ⟨(Nat.le_of_ble_eq_true rfl), (Nat.le_of_ble_eq_true rfl)⟩ dL_fill_26
  · skip
    refine lv_i2l hx hb dL_fill_14 rfl ?_
    refine fz_js X hW 35 0 rfl rfl (by omega) (by decide) dL_fill_15 (fun H locs hW => ?_)
    have hW : fz_W g A s (FW g f a d (paV v x.toNatClampNeg y.toNatClampNeg w.toNatClampNeg z.toNatClampNeg i) (u) ++ [LR g q (vp_updL lf 0 (bcL (usF (paV v x.toNatClampNeg y.toNatClampNeg w.toNatClampNeg z.toNatClampNeg i) 48)).toInt64)]) H locs := hW
    refine lv_goto (tgt := 27) hx hb dL_fill_16 (by decide) ?_
    refine lv_iconst (v := 0) hx hb dL_fill_27 (by decide) ?_
    exact fz_rw X (fz_cast (h0 hex).1.symm hW) (h0 hex).2.symm ⟨(Nat.le_of_ble_eq_true rfl), (Nat.le_of_ble_eq_true rfl)⟩ dL_fill_28
theorem lh_54 : fz_LH RL 54 yL_fill cL_fill 8 [(0, 16, 19, 13), (0, 16, 23, 15)] 7 := ⟨ii_L, ⟨List.mem_of_getElem? (i := 200) (by decide +kernel), by decide +kernel⟩, ⟨by decide +kernel, by decide +kernel, by decide +kernel⟩, ⟨List.mem_of_getElem? (i := 198) (by decide +kernel), by decide +kernel⟩, ⟨List.mem_of_getElem? (i := 199) (by decide +kernel), by decide +kernel⟩⟩
set_option maxHeartbeats 4000000 in
set_option maxRecDepth 100000 in
theorem h_move (l : Launch) (hfl : l.stackTraces = false) (g : GG) (f : Nat) (a d : Nat → Nat) (v u : SV) (q : Nat) (lf : Nat → Int64) (x y w z x2 y2 : Int32) (hwm : v.wm ≤ 4) (W1 : va_W) (r : Int32) (h0 : exM x y w z x2 y2 = none → W1 = FW g f a d (shV v (mkM x.toNatClampNeg y.toNatClampNeg w.toNatClampNeg z.toNatClampNeg x2.toNatClampNeg y2.toNatClampNeg)) (u) ++ [LR g q (vp_updL lf 0 (nI (shV v (mkM x.toNatClampNeg y.toNatClampNeg w.toNatClampNeg z.toNatClampNeg x2.toNatClampNeg y2.toNatClampNeg)).wm).toInt64)] ∧ r = 0) (h1 : ∀ E, exM x y w z x2 y2 = some E → W1 = FW g f a d v u ++ [LR g q lf] ∧ r = cd2 E) : fz_CH l g yL_move cL_move 9 [(0, 18, 21, 13), (0, 18, 25, 15)] 9 5 30 160 [.ref f, .int x, .int y, .int w, .int z, .int x2, .int y2, .ref q] (FW g f a d v u ++ [LR g q lf]) W1 r := by
  refine fz_CH.of (by decide) (Nat.le_of_ble_eq_true rfl) ?_
  intro p e s m args below meth c A ls X Y hN htab hW hl
  have hx := X.1
  have hb := X.2.1
  have hl : lv_has ls 9 [(0, .ref f), (1, .int x), (2, .int y), (3, .int w), (4, .int z), (5, .int x2), (6, .int y2), (7, .ref q)] := hl
  have X : fz_X p s m meth c RL cL_move 9 (some .int) g A := X
  have hW : fz_W g A s (FW g f a d v u ++ [LR g q lf]) s.heap [] := hW
  refine lv_aload hx hb dL_move_0 (lv_at hl 7 rfl) ?_
  refine lv_iconst (v := 0) hx hb dL_move_2 (by decide) ?_
  refine lv_aload_n hx hb dL_move_3 rfl (lv_at hl 0 rfl) ?_
  refine lv_iload_n hx hb dL_move_4 rfl (lv_at hl 1 rfl) ?_
  refine lv_iload_n hx hb dL_move_5 rfl (lv_at hl 2 rfl) ?_
  refine lv_iload_n hx hb dL_move_6 rfl (lv_at hl 3 rfl) ?_
  refine lv_iload hx hb dL_move_7 (lv_at hl 4 rfl) ?_
  refine lv_iload hx hb dL_move_9 (lv_at hl 5 rfl) ?_
  refine lv_iload hx hb dL_move_11 (lv_at hl 6 rfl) ?_
  refine fz_cVX X Y hW (fz_CX.lr (c_X3_move l hfl g f a d v u x y w z x2 y2 hwm) q lf) lk_L_17 (ci := 3) (q0 := 0) rfl rfl rfl rfl ⟨(Nat.le_of_ble_eq_true rfl), (Nat.le_of_ble_eq_true rfl)⟩ hl rfl (Nat.le_of_ble_eq_true rfl) dL_move_13 ⟨(Nat.le_of_ble_eq_true rfl), (Nat.le_of_ble_eq_true rfl)⟩ (fun E q9 ce H locs hex hW hc1 hc2 hc3 => ?_) (fun H locs hex hW => ?_)
  · skip
    rcases exM_E hex with eE | eE
    · subst eE
      refine vx_catch (own := RL) (name := XIO) X.2.2.2.2.1 [] ⟨0, 18, 21, 13⟩ [⟨0, 18, 25, 15⟩] htab (fun z hz => absurd hz List.not_mem_nil) (by decide) (by decide) (X.2.2.2.2.2.2.1.use xl_io args) (X.2.2.2.2.2.2.1.use xs_io args) hc1 hc2 hc3 (show W p l e _ s m args below meth c _ _ _ _ _ (F0 m 21 ls [.ref q9]) from ?_)
      refine lv_astore (lv' := [(8, .ref q9), (0, .ref f), (1, .int x), (2, .int y), (3, .int w), (4, .int z), (5, .int x2), (6, .int y2), (7, .ref q)]) hx hb dL_move_21 hl (by decide) rfl (fun ls hl => ?_)
      refine lv_iconst (v := 1) hx hb dL_move_23 (by decide) ?_
      exact fz_rw X (fz_cast (h1 _ hex).1.symm hW) ((h1 _ hex).2.trans cd2_io).symm ⟨(Nat.le_of_ble_eq_true rfl), (Nat.le_of_ble_eq_true rfl)⟩ dL_move_24
    · subst eE
      refine vx_catch (own := RL) (name := XIA) X.2.2.2.2.1 [⟨0, 18, 21, 13⟩] ⟨0, 18, 25, 15⟩ [] htab (fun z hz => Or.inr (by rw [List.mem_singleton.mp hz]; exact ⟨by decide, XIO, X.2.2.2.2.2.2.1.use xl_io args, hN⟩)) (by decide) (by decide) (X.2.2.2.2.2.2.1.use xl_ia args) (X.2.2.2.2.2.2.1.use xs_ia args) hc1 hc2 hc3 (show W p l e _ s m args below meth c _ _ _ _ _ (F0 m 25 ls [.ref q9]) from ?_)
      refine lv_astore (lv' := [(8, .ref q9), (0, .ref f), (1, .int x), (2, .int y), (3, .int w), (4, .int z), (5, .int x2), (6, .int y2), (7, .ref q)]) hx hb dL_move_25 hl (by decide) rfl (fun ls hl => ?_)
      refine lv_iconst (v := 2) hx hb dL_move_27 (by decide) ?_
      exact fz_rw X (fz_cast (h1 _ hex).1.symm hW) ((h1 _ hex).2.trans cd2_ia).symm ⟨(Nat.le_of_ble_eq_true rfl), (Nat.le_of_ble_eq_true rfl)⟩ dL_move_28
  · skip
    refine lv_i2l hx hb dL_move_16 rfl ?_
    refine fz_js X hW 35 0 rfl rfl (by omega) (by decide) dL_move_17 (fun H locs hW => ?_)
    have hW : fz_W g A s (FW g f a d (shV v (mkM x.toNatClampNeg y.toNatClampNeg w.toNatClampNeg z.toNatClampNeg x2.toNatClampNeg y2.toNatClampNeg)) (u) ++ [LR g q (vp_updL lf 0 (nI (shV v (mkM x.toNatClampNeg y.toNatClampNeg w.toNatClampNeg z.toNatClampNeg x2.toNatClampNeg y2.toNatClampNeg)).wm).toInt64)]) H locs := hW
    refine lv_goto (tgt := 29) hx hb dL_move_18 (by decide) ?_
    refine lv_iconst (v := 0) hx hb dL_move_29 (by decide) ?_
    exact fz_rw X (fz_cast (h0 hex).1.symm hW) (h0 hex).2.symm ⟨(Nat.le_of_ble_eq_true rfl), (Nat.le_of_ble_eq_true rfl)⟩ dL_move_30
theorem lh_64 : fz_LH RL 64 yL_move cL_move 9 [(0, 18, 21, 13), (0, 18, 25, 15)] 8 := ⟨ii_L, ⟨List.mem_of_getElem? (i := 328) (by decide +kernel), by decide +kernel⟩, ⟨by decide +kernel, by decide +kernel, by decide +kernel⟩, ⟨List.mem_of_getElem? (i := 326) (by decide +kernel), by decide +kernel⟩, ⟨List.mem_of_getElem? (i := 327) (by decide +kernel), by decide +kernel⟩⟩
set_option maxHeartbeats 4000000 in
set_option maxRecDepth 100000 in
theorem h_look (l : Launch) (hfl : l.stackTraces = false) (g : GG) (f : Nat) (a d : Nat → Nat) (v u : SV) (q : Nat) (lf : Nat → Int64) (x y : Int32) (W1 : va_W) (r : Int32) (h0 : exT x y = none → W1 = FW g f a d (v.laS (tN x y)) (u) ++ [LR g q (vp_updL lf 0 (nI v.la).toInt64)] ∧ r = 0) (h1 : ∀ E, exT x y = some E → W1 = FW g f a d v u ++ [LR g q lf] ∧ r = cd1 E) : fz_CH l g yL_look cL_look 5 [(0, 10, 13, 13)] 8 1 6 134 [.ref f, .int x, .int y, .ref q] (FW g f a d v u ++ [LR g q lf]) W1 r := by
  refine fz_CH.of (by decide) (Nat.le_of_ble_eq_true rfl) ?_
  intro p e s m args below meth c A ls X Y hN htab hW hl
  have hx := X.1
  have hb := X.2.1
  have hl : lv_has ls 5 [(0, .ref f), (1, .int x), (2, .int y), (3, .ref q)] := hl
  have X : fz_X p s m meth c RL cL_look 5 (some .int) g A := X
  have hW : fz_W g A s (FW g f a d v u ++ [LR g q lf]) s.heap [] := hW
  refine lv_aload_n hx hb dL_look_0 rfl (lv_at hl 3 rfl) ?_
  refine lv_iconst (v := 0) hx hb dL_look_1 (by decide) ?_
  refine lv_aload_n hx hb dL_look_2 rfl (lv_at hl 0 rfl) ?_
  refine lv_iload_n hx hb dL_look_3 rfl (lv_at hl 1 rfl) ?_
  refine lv_iload_n hx hb dL_look_4 rfl (lv_at hl 2 rfl) ?_
  refine fz_cVX X Y hW (fz_CX.lr (c_X3_look l hfl g f a d v u x y) q lf) lk_L_21 (ci := 3) (q0 := 0) rfl rfl rfl rfl ⟨(Nat.le_of_ble_eq_true rfl), (Nat.le_of_ble_eq_true rfl)⟩ hl rfl (Nat.le_of_ble_eq_true rfl) dL_look_5 ⟨(Nat.le_of_ble_eq_true rfl), (Nat.le_of_ble_eq_true rfl)⟩ (fun E q9 ce H locs hex hW hc1 hc2 hc3 => ?_) (fun H locs hex hW => ?_)
  · skip
    have eE := exT_E hex
    subst eE
    refine vx_catch (own := RL) (name := XIO) X.2.2.2.2.1 [] ⟨0, 10, 13, 13⟩ [] htab (fun z hz => absurd hz List.not_mem_nil) (by decide) (by decide) (X.2.2.2.2.2.2.1.use xl_io args) (X.2.2.2.2.2.2.1.use xs_io args) hc1 hc2 hc3 (show W p l e _ s m args below meth c _ _ _ _ _ (F0 m 13 ls [.ref q9]) from ?_)
    refine lv_astore (lv' := [(4, .ref q9), (0, .ref f), (1, .int x), (2, .int y), (3, .ref q)]) hx hb dL_look_13 hl (by decide) rfl (fun ls hl => ?_)
    refine lv_iconst (v := 1) hx hb dL_look_15 (by decide) ?_
    exact fz_rw X (fz_cast (h1 _ hex).1.symm hW) (h1 _ hex).2.symm ⟨(Nat.le_of_ble_eq_true rfl), (Nat.le_of_ble_eq_true rfl)⟩ dL_look_16
  · skip
    refine lv_i2l hx hb dL_look_8 rfl ?_
    refine fz_js X hW 35 0 rfl rfl (by omega) (by decide) dL_look_9 (fun H locs hW => ?_)
    have hW : fz_W g A s (FW g f a d (v.laS (tN x y)) (u) ++ [LR g q (vp_updL lf 0 (nI v.la).toInt64)]) H locs := hW
    refine lv_goto (tgt := 17) hx hb dL_look_10 (by decide) ?_
    refine lv_iconst (v := 0) hx hb dL_look_17 (by decide) ?_
    exact fz_rw X (fz_cast (h0 hex).1.symm hW) (h0 hex).2.symm ⟨(Nat.le_of_ble_eq_true rfl), (Nat.le_of_ble_eq_true rfl)⟩ dL_look_18
theorem lh_68 : fz_LH RL 68 yL_look cL_look 5 [(0, 10, 13, 13)] 4 := ⟨ii_L, ⟨List.mem_of_getElem? (i := 350) (by decide +kernel), by decide +kernel⟩, ⟨by decide +kernel, by decide +kernel, by decide +kernel⟩, ⟨List.mem_of_getElem? (i := 348) (by decide +kernel), by decide +kernel⟩, ⟨List.mem_of_getElem? (i := 349) (by decide +kernel), by decide +kernel⟩⟩
set_option maxHeartbeats 4000000 in
set_option maxRecDepth 100000 in
theorem h_step (l : Launch) (hfl : l.stackTraces = false) (g : GG) (f : Nat) (a d : Nat → Nat) (v u : SV) (q : Nat) (lf : Nat → Int64) (x : Int32) (hok : SOK v) (W1 : va_W) (r : Int32) (h0 : exG x = none → W1 = FW g f a d (psV v x) (u) ++ [LR g q (vp_updL lf 0 ((psA v x).1).toInt64)] ∧ r = 0) (h1 : ∀ E, exG x = some E → W1 = FW g f a d v u ++ [LR g q lf] ∧ r = cd1 E) : fz_CH l g yL_step cL_step 4 [(0, 9, 12, 15)] 8 1 6 166 [.ref f, .int x, .ref q] (FW g f a d v u ++ [LR g q lf]) W1 r := by
  refine fz_CH.of (by decide) (Nat.le_of_ble_eq_true rfl) ?_
  intro p e s m args below meth c A ls X Y hN htab hW hl
  have hx := X.1
  have hb := X.2.1
  have hl : lv_has ls 4 [(0, .ref f), (1, .int x), (2, .ref q)] := hl
  have X : fz_X p s m meth c RL cL_step 4 (some .int) g A := X
  have hW : fz_W g A s (FW g f a d v u ++ [LR g q lf]) s.heap [] := hW
  refine lv_aload_n hx hb dL_step_0 rfl (lv_at hl 2 rfl) ?_
  refine lv_iconst (v := 0) hx hb dL_step_1 (by decide) ?_
  refine lv_aload_n hx hb dL_step_2 rfl (lv_at hl 0 rfl) ?_
  refine lv_iload_n hx hb dL_step_3 rfl (lv_at hl 1 rfl) ?_
  refine fz_cVX X Y hW (fz_CX.lr (c_X3_step l hfl g f a d v u x hok.1 hok.2.1 hok.2.2) q lf) lk_L_25 (ci := 3) (q0 := 0) rfl rfl rfl rfl ⟨(Nat.le_of_ble_eq_true rfl), (Nat.le_of_ble_eq_true rfl)⟩ hl rfl (Nat.le_of_ble_eq_true rfl) dL_step_4 ⟨(Nat.le_of_ble_eq_true rfl), (Nat.le_of_ble_eq_true rfl)⟩ (fun E q9 ce H locs hex hW hc1 hc2 hc3 => ?_) (fun H locs hex hW => ?_)
  · skip
    have eE := exG_E hex
    subst eE
    refine vx_catch (own := RL) (name := XIA) X.2.2.2.2.1 [] ⟨0, 9, 12, 15⟩ [] htab (fun z hz => absurd hz List.not_mem_nil) (by decide) (by decide) (X.2.2.2.2.2.2.1.use xl_ia args) (X.2.2.2.2.2.2.1.use xs_ia args) hc1 hc2 hc3 (show W p l e _ s m args below meth c _ _ _ _ _ (F0 m 12 ls [.ref q9]) from ?_)
    refine lv_astore_n (lv' := [(3, .ref q9), (0, .ref f), (1, .int x), (2, .ref q)]) hx hb dL_step_12 rfl hl (by decide) rfl (fun ls hl => ?_)
    refine lv_iconst (v := 1) hx hb dL_step_13 (by decide) ?_
    exact fz_rw X (fz_cast (h1 _ hex).1.symm hW) (h1 _ hex).2.symm ⟨(Nat.le_of_ble_eq_true rfl), (Nat.le_of_ble_eq_true rfl)⟩ dL_step_14
  · skip
    refine lv_i2l hx hb dL_step_7 rfl ?_
    refine fz_js X hW 35 0 rfl rfl (by omega) (by decide) dL_step_8 (fun H locs hW => ?_)
    have hW : fz_W g A s (FW g f a d (psV v x) (u) ++ [LR g q (vp_updL lf 0 ((psA v x).1).toInt64)]) H locs := hW
    refine lv_goto (tgt := 15) hx hb dL_step_9 (by decide) ?_
    refine lv_iconst (v := 0) hx hb dL_step_15 (by decide) ?_
    exact fz_rw X (fz_cast (h0 hex).1.symm hW) (h0 hex).2.symm ⟨(Nat.le_of_ble_eq_true rfl), (Nat.le_of_ble_eq_true rfl)⟩ dL_step_16
theorem lh_72 : fz_LH RL 72 yL_step cL_step 4 [(0, 9, 12, 15)] 3 := ⟨ii_L, ⟨List.mem_of_getElem? (i := 358) (by decide +kernel), by decide +kernel⟩, ⟨by decide +kernel, by decide +kernel, by decide +kernel⟩, ⟨List.mem_of_getElem? (i := 356) (by decide +kernel), by decide +kernel⟩, ⟨List.mem_of_getElem? (i := 357) (by decide +kernel), by decide +kernel⟩⟩
set_option maxHeartbeats 4000000 in
set_option maxRecDepth 100000 in
theorem h_near (l : Launch) (hfl : l.stackTraces = false) (g : GG) (f : Nat) (a d : Nat → Nat) (v u : SV) (q : Nat) (lf : Nat → Int64) (x y : Int32) (W1 : va_W) (r : Int32) (h0 : exT x y = none → W1 = FW g f a d (v) (u) ++ [LR g q (vp_updL lf 0 (v.near (tN x y)).toInt64)] ∧ r = 0) (h1 : ∀ E, exT x y = some E → W1 = FW g f a d v u ++ [LR g q lf] ∧ r = cd1 E) : fz_CH l g yL_near cL_near 5 [(0, 10, 13, 13)] 8 1 6 133 [.ref f, .int x, .int y, .ref q] (FW g f a d v u ++ [LR g q lf]) W1 r := by
  refine fz_CH.of (by decide) (Nat.le_of_ble_eq_true rfl) ?_
  intro p e s m args below meth c A ls X Y hN htab hW hl
  have hx := X.1
  have hb := X.2.1
  have hl : lv_has ls 5 [(0, .ref f), (1, .int x), (2, .int y), (3, .ref q)] := hl
  have X : fz_X p s m meth c RL cL_near 5 (some .int) g A := X
  have hW : fz_W g A s (FW g f a d v u ++ [LR g q lf]) s.heap [] := hW
  refine lv_aload_n hx hb dL_near_0 rfl (lv_at hl 3 rfl) ?_
  refine lv_iconst (v := 0) hx hb dL_near_1 (by decide) ?_
  refine lv_aload_n hx hb dL_near_2 rfl (lv_at hl 0 rfl) ?_
  refine lv_iload_n hx hb dL_near_3 rfl (lv_at hl 1 rfl) ?_
  refine lv_iload_n hx hb dL_near_4 rfl (lv_at hl 2 rfl) ?_
  refine fz_cVX X Y hW (fz_CX.lr (c_X3_near l hfl g f a d v u x y) q lf) lk_L_29 (ci := 3) (q0 := 0) rfl rfl rfl rfl ⟨(Nat.le_of_ble_eq_true rfl), (Nat.le_of_ble_eq_true rfl)⟩ hl rfl (Nat.le_of_ble_eq_true rfl) dL_near_5 ⟨(Nat.le_of_ble_eq_true rfl), (Nat.le_of_ble_eq_true rfl)⟩ (fun E q9 ce H locs hex hW hc1 hc2 hc3 => ?_) (fun H locs hex hW => ?_)
  · skip
    have eE := exT_E hex
    subst eE
    refine vx_catch (own := RL) (name := XIO) X.2.2.2.2.1 [] ⟨0, 10, 13, 13⟩ [] htab (fun z hz => absurd hz List.not_mem_nil) (by decide) (by decide) (X.2.2.2.2.2.2.1.use xl_io args) (X.2.2.2.2.2.2.1.use xs_io args) hc1 hc2 hc3 (show W p l e _ s m args below meth c _ _ _ _ _ (F0 m 13 ls [.ref q9]) from ?_)
    refine lv_astore (lv' := [(4, .ref q9), (0, .ref f), (1, .int x), (2, .int y), (3, .ref q)]) hx hb dL_near_13 hl (by decide) rfl (fun ls hl => ?_)
    refine lv_iconst (v := 1) hx hb dL_near_15 (by decide) ?_
    exact fz_rw X (fz_cast (h1 _ hex).1.symm hW) (h1 _ hex).2.symm ⟨(Nat.le_of_ble_eq_true rfl), (Nat.le_of_ble_eq_true rfl)⟩ dL_near_16
  · skip
    refine lv_i2l hx hb dL_near_8 rfl ?_
    refine fz_js X hW 35 0 rfl rfl (by omega) (by decide) dL_near_9 (fun H locs hW => ?_)
    have hW : fz_W g A s (FW g f a d (v) (u) ++ [LR g q (vp_updL lf 0 (v.near (tN x y)).toInt64)]) H locs := hW
    refine lv_goto (tgt := 17) hx hb dL_near_10 (by decide) ?_
    refine lv_iconst (v := 0) hx hb dL_near_17 (by decide) ?_
    exact fz_rw X (fz_cast (h0 hex).1.symm hW) (h0 hex).2.symm ⟨(Nat.le_of_ble_eq_true rfl), (Nat.le_of_ble_eq_true rfl)⟩ dL_near_18
theorem lh_80 : fz_LH RL 80 yL_near cL_near 5 [(0, 10, 13, 13)] 4 := ⟨ii_L, ⟨List.mem_of_getElem? (i := 448) (by decide +kernel), by decide +kernel⟩, ⟨by decide +kernel, by decide +kernel, by decide +kernel⟩, ⟨List.mem_of_getElem? (i := 446) (by decide +kernel), by decide +kernel⟩, ⟨List.mem_of_getElem? (i := 447) (by decide +kernel), by decide +kernel⟩⟩
set_option maxHeartbeats 4000000 in
set_option maxRecDepth 100000 in
theorem h_far (l : Launch) (hfl : l.stackTraces = false) (g : GG) (f : Nat) (a d : Nat → Nat) (v u : SV) (q : Nat) (lf : Nat → Int64) (x y : Int32) (W1 : va_W) (r : Int32) (h0 : exT x y = none → W1 = FW g f a d (v) (u) ++ [LR g q (vp_updL lf 0 (v.far (tN x y)).toInt64)] ∧ r = 0) (h1 : ∀ E, exT x y = some E → W1 = FW g f a d v u ++ [LR g q lf] ∧ r = cd1 E) : fz_CH l g yL_far cL_far 5 [(0, 10, 13, 13)] 8 1 6 133 [.ref f, .int x, .int y, .ref q] (FW g f a d v u ++ [LR g q lf]) W1 r := by
  refine fz_CH.of (by decide) (Nat.le_of_ble_eq_true rfl) ?_
  intro p e s m args below meth c A ls X Y hN htab hW hl
  have hx := X.1
  have hb := X.2.1
  have hl : lv_has ls 5 [(0, .ref f), (1, .int x), (2, .int y), (3, .ref q)] := hl
  have X : fz_X p s m meth c RL cL_far 5 (some .int) g A := X
  have hW : fz_W g A s (FW g f a d v u ++ [LR g q lf]) s.heap [] := hW
  refine lv_aload_n hx hb dL_far_0 rfl (lv_at hl 3 rfl) ?_
  refine lv_iconst (v := 0) hx hb dL_far_1 (by decide) ?_
  refine lv_aload_n hx hb dL_far_2 rfl (lv_at hl 0 rfl) ?_
  refine lv_iload_n hx hb dL_far_3 rfl (lv_at hl 1 rfl) ?_
  refine lv_iload_n hx hb dL_far_4 rfl (lv_at hl 2 rfl) ?_
  refine fz_cVX X Y hW (fz_CX.lr (c_X3_far l hfl g f a d v u x y) q lf) lk_L_32 (ci := 3) (q0 := 0) rfl rfl rfl rfl ⟨(Nat.le_of_ble_eq_true rfl), (Nat.le_of_ble_eq_true rfl)⟩ hl rfl (Nat.le_of_ble_eq_true rfl) dL_far_5 ⟨(Nat.le_of_ble_eq_true rfl), (Nat.le_of_ble_eq_true rfl)⟩ (fun E q9 ce H locs hex hW hc1 hc2 hc3 => ?_) (fun H locs hex hW => ?_)
  · skip
    have eE := exT_E hex
    subst eE
    refine vx_catch (own := RL) (name := XIO) X.2.2.2.2.1 [] ⟨0, 10, 13, 13⟩ [] htab (fun z hz => absurd hz List.not_mem_nil) (by decide) (by decide) (X.2.2.2.2.2.2.1.use xl_io args) (X.2.2.2.2.2.2.1.use xs_io args) hc1 hc2 hc3 (show W p l e _ s m args below meth c _ _ _ _ _ (F0 m 13 ls [.ref q9]) from ?_)
    refine lv_astore (lv' := [(4, .ref q9), (0, .ref f), (1, .int x), (2, .int y), (3, .ref q)]) hx hb dL_far_13 hl (by decide) rfl (fun ls hl => ?_)
    refine lv_iconst (v := 1) hx hb dL_far_15 (by decide) ?_
    exact fz_rw X (fz_cast (h1 _ hex).1.symm hW) (h1 _ hex).2.symm ⟨(Nat.le_of_ble_eq_true rfl), (Nat.le_of_ble_eq_true rfl)⟩ dL_far_16
  · skip
    refine lv_i2l hx hb dL_far_8 rfl ?_
    refine fz_js X hW 35 0 rfl rfl (by omega) (by decide) dL_far_9 (fun H locs hW => ?_)
    have hW : fz_W g A s (FW g f a d (v) (u) ++ [LR g q (vp_updL lf 0 (v.far (tN x y)).toInt64)]) H locs := hW
    refine lv_goto (tgt := 17) hx hb dL_far_10 (by decide) ?_
    refine lv_iconst (v := 0) hx hb dL_far_17 (by decide) ?_
    exact fz_rw X (fz_cast (h0 hex).1.symm hW) (h0 hex).2.symm ⟨(Nat.le_of_ble_eq_true rfl), (Nat.le_of_ble_eq_true rfl)⟩ dL_far_18
theorem lh_83 : fz_LH RL 83 yL_far cL_far 5 [(0, 10, 13, 13)] 4 := ⟨ii_L, ⟨List.mem_of_getElem? (i := 455) (by decide +kernel), by decide +kernel⟩, ⟨by decide +kernel, by decide +kernel, by decide +kernel⟩, ⟨List.mem_of_getElem? (i := 453) (by decide +kernel), by decide +kernel⟩, ⟨List.mem_of_getElem? (i := 454) (by decide +kernel), by decide +kernel⟩⟩
set_option maxHeartbeats 4000000 in
set_option maxRecDepth 100000 in
theorem h_kind (l : Launch) (hfl : l.stackTraces = false) (g : GG) (f : Nat) (a d : Nat → Nat) (v u : SV) (q : Nat) (lf : Nat → Int64) (x y : Int32) (W1 : va_W) (r : Int32) (h0 : exT x y = none → W1 = FW g f a d (v) (u) ++ [LR g q (vp_updL lf 0 (kdI v (tN x y)).toInt64)] ∧ r = 0) (h1 : ∀ E, exT x y = some E → W1 = FW g f a d v u ++ [LR g q lf] ∧ r = cd1 E) : fz_CH l g yL_kind cL_kind 5 [(0, 10, 13, 13)] 8 1 6 133 [.ref f, .int x, .int y, .ref q] (FW g f a d v u ++ [LR g q lf]) W1 r := by
  refine fz_CH.of (by decide) (Nat.le_of_ble_eq_true rfl) ?_
  intro p e s m args below meth c A ls X Y hN htab hW hl
  have hx := X.1
  have hb := X.2.1
  have hl : lv_has ls 5 [(0, .ref f), (1, .int x), (2, .int y), (3, .ref q)] := hl
  have X : fz_X p s m meth c RL cL_kind 5 (some .int) g A := X
  have hW : fz_W g A s (FW g f a d v u ++ [LR g q lf]) s.heap [] := hW
  refine lv_aload_n hx hb dL_kind_0 rfl (lv_at hl 3 rfl) ?_
  refine lv_iconst (v := 0) hx hb dL_kind_1 (by decide) ?_
  refine lv_aload_n hx hb dL_kind_2 rfl (lv_at hl 0 rfl) ?_
  refine lv_iload_n hx hb dL_kind_3 rfl (lv_at hl 1 rfl) ?_
  refine lv_iload_n hx hb dL_kind_4 rfl (lv_at hl 2 rfl) ?_
  refine fz_cVX X Y hW (fz_CX.lr (c_X3_kind l hfl g f a d v u x y) q lf) lk_L_35 (ci := 3) (q0 := 0) rfl rfl rfl rfl ⟨(Nat.le_of_ble_eq_true rfl), (Nat.le_of_ble_eq_true rfl)⟩ hl rfl (Nat.le_of_ble_eq_true rfl) dL_kind_5 ⟨(Nat.le_of_ble_eq_true rfl), (Nat.le_of_ble_eq_true rfl)⟩ (fun E q9 ce H locs hex hW hc1 hc2 hc3 => ?_) (fun H locs hex hW => ?_)
  · skip
    have eE := exT_E hex
    subst eE
    refine vx_catch (own := RL) (name := XIO) X.2.2.2.2.1 [] ⟨0, 10, 13, 13⟩ [] htab (fun z hz => absurd hz List.not_mem_nil) (by decide) (by decide) (X.2.2.2.2.2.2.1.use xl_io args) (X.2.2.2.2.2.2.1.use xs_io args) hc1 hc2 hc3 (show W p l e _ s m args below meth c _ _ _ _ _ (F0 m 13 ls [.ref q9]) from ?_)
    refine lv_astore (lv' := [(4, .ref q9), (0, .ref f), (1, .int x), (2, .int y), (3, .ref q)]) hx hb dL_kind_13 hl (by decide) rfl (fun ls hl => ?_)
    refine lv_iconst (v := 1) hx hb dL_kind_15 (by decide) ?_
    exact fz_rw X (fz_cast (h1 _ hex).1.symm hW) (h1 _ hex).2.symm ⟨(Nat.le_of_ble_eq_true rfl), (Nat.le_of_ble_eq_true rfl)⟩ dL_kind_16
  · skip
    refine lv_i2l hx hb dL_kind_8 rfl ?_
    refine fz_js X hW 35 0 rfl rfl (by omega) (by decide) dL_kind_9 (fun H locs hW => ?_)
    have hW : fz_W g A s (FW g f a d (v) (u) ++ [LR g q (vp_updL lf 0 (kdI v (tN x y)).toInt64)]) H locs := hW
    refine lv_goto (tgt := 17) hx hb dL_kind_10 (by decide) ?_
    refine lv_iconst (v := 0) hx hb dL_kind_17 (by decide) ?_
    exact fz_rw X (fz_cast (h0 hex).1.symm hW) (h0 hex).2.symm ⟨(Nat.le_of_ble_eq_true rfl), (Nat.le_of_ble_eq_true rfl)⟩ dL_kind_18
theorem lh_86 : fz_LH RL 86 yL_kind cL_kind 5 [(0, 10, 13, 13)] 4 := ⟨ii_L, ⟨List.mem_of_getElem? (i := 462) (by decide +kernel), by decide +kernel⟩, ⟨by decide +kernel, by decide +kernel, by decide +kernel⟩, ⟨List.mem_of_getElem? (i := 460) (by decide +kernel), by decide +kernel⟩, ⟨List.mem_of_getElem? (i := 461) (by decide +kernel), by decide +kernel⟩⟩
set_option maxHeartbeats 4000000 in
set_option maxRecDepth 100000 in
theorem h_since (l : Launch) (hfl : l.stackTraces = false) (g : GG) (f : Nat) (a d : Nat → Nat) (v u : SV) (q : Nat) (lf : Nat → Int64) (x y : Int32) (W1 : va_W) (r : Int32) (h0 : exT x y = none → W1 = FW g f a d (v) (u) ++ [LR g q (vp_updL lf 0 (v.since (tN x y)).toInt64)] ∧ r = 0) (h1 : ∀ E, exT x y = some E → W1 = FW g f a d v u ++ [LR g q lf] ∧ r = cd1 E) : fz_CH l g yL_since cL_since 5 [(0, 10, 13, 13)] 8 1 6 133 [.ref f, .int x, .int y, .ref q] (FW g f a d v u ++ [LR g q lf]) W1 r := by
  refine fz_CH.of (by decide) (Nat.le_of_ble_eq_true rfl) ?_
  intro p e s m args below meth c A ls X Y hN htab hW hl
  have hx := X.1
  have hb := X.2.1
  have hl : lv_has ls 5 [(0, .ref f), (1, .int x), (2, .int y), (3, .ref q)] := hl
  have X : fz_X p s m meth c RL cL_since 5 (some .int) g A := X
  have hW : fz_W g A s (FW g f a d v u ++ [LR g q lf]) s.heap [] := hW
  refine lv_aload_n hx hb dL_since_0 rfl (lv_at hl 3 rfl) ?_
  refine lv_iconst (v := 0) hx hb dL_since_1 (by decide) ?_
  refine lv_aload_n hx hb dL_since_2 rfl (lv_at hl 0 rfl) ?_
  refine lv_iload_n hx hb dL_since_3 rfl (lv_at hl 1 rfl) ?_
  refine lv_iload_n hx hb dL_since_4 rfl (lv_at hl 2 rfl) ?_
  refine fz_cVX X Y hW (fz_CX.lr (c_X3_since l hfl g f a d v u x y) q lf) lk_L_38 (ci := 3) (q0 := 0) rfl rfl rfl rfl ⟨(Nat.le_of_ble_eq_true rfl), (Nat.le_of_ble_eq_true rfl)⟩ hl rfl (Nat.le_of_ble_eq_true rfl) dL_since_5 ⟨(Nat.le_of_ble_eq_true rfl), (Nat.le_of_ble_eq_true rfl)⟩ (fun E q9 ce H locs hex hW hc1 hc2 hc3 => ?_) (fun H locs hex hW => ?_)
  · skip
    have eE := exT_E hex
    subst eE
    refine vx_catch (own := RL) (name := XIO) X.2.2.2.2.1 [] ⟨0, 10, 13, 13⟩ [] htab (fun z hz => absurd hz List.not_mem_nil) (by decide) (by decide) (X.2.2.2.2.2.2.1.use xl_io args) (X.2.2.2.2.2.2.1.use xs_io args) hc1 hc2 hc3 (show W p l e _ s m args below meth c _ _ _ _ _ (F0 m 13 ls [.ref q9]) from ?_)
    refine lv_astore (lv' := [(4, .ref q9), (0, .ref f), (1, .int x), (2, .int y), (3, .ref q)]) hx hb dL_since_13 hl (by decide) rfl (fun ls hl => ?_)
    refine lv_iconst (v := 1) hx hb dL_since_15 (by decide) ?_
    exact fz_rw X (fz_cast (h1 _ hex).1.symm hW) (h1 _ hex).2.symm ⟨(Nat.le_of_ble_eq_true rfl), (Nat.le_of_ble_eq_true rfl)⟩ dL_since_16
  · skip
    refine lv_i2l hx hb dL_since_8 rfl ?_
    refine fz_js X hW 35 0 rfl rfl (by omega) (by decide) dL_since_9 (fun H locs hW => ?_)
    have hW : fz_W g A s (FW g f a d (v) (u) ++ [LR g q (vp_updL lf 0 (v.since (tN x y)).toInt64)]) H locs := hW
    refine lv_goto (tgt := 17) hx hb dL_since_10 (by decide) ?_
    refine lv_iconst (v := 0) hx hb dL_since_17 (by decide) ?_
    exact fz_rw X (fz_cast (h0 hex).1.symm hW) (h0 hex).2.symm ⟨(Nat.le_of_ble_eq_true rfl), (Nat.le_of_ble_eq_true rfl)⟩ dL_since_18
theorem lh_89 : fz_LH RL 89 yL_since cL_since 5 [(0, 10, 13, 13)] 4 := ⟨ii_L, ⟨List.mem_of_getElem? (i := 470) (by decide +kernel), by decide +kernel⟩, ⟨by decide +kernel, by decide +kernel, by decide +kernel⟩, ⟨List.mem_of_getElem? (i := 468) (by decide +kernel), by decide +kernel⟩, ⟨List.mem_of_getElem? (i := 469) (by decide +kernel), by decide +kernel⟩⟩
set_option maxHeartbeats 4000000 in
set_option maxRecDepth 100000 in
theorem h_known (l : Launch) (hfl : l.stackTraces = false) (g : GG) (f : Nat) (a d : Nat → Nat) (v u : SV) (q : Nat) (lf : Nat → Int64) (x : Int32) (hkc : v.kc ≤ 8) (W1 : va_W) (r : Int32) (h0 : exK v.kc x = none → W1 = FW g f a d (v) (u) ++ [LR g q (vp_updL lf 0 (v.kp x.toNatClampNeg).toInt64)] ∧ r = 0) (h1 : ∀ E, exK v.kc x = some E → W1 = FW g f a d v u ++ [LR g q lf] ∧ r = cd1 E) : fz_CH l g yL_known cL_known 4 [(0, 9, 12, 13)] 7 1 6 111 [.ref f, .int x, .ref q] (FW g f a d v u ++ [LR g q lf]) W1 r := by
  refine fz_CH.of (by decide) (Nat.le_of_ble_eq_true rfl) ?_
  intro p e s m args below meth c A ls X Y hN htab hW hl
  have hx := X.1
  have hb := X.2.1
  have hl : lv_has ls 4 [(0, .ref f), (1, .int x), (2, .ref q)] := hl
  have X : fz_X p s m meth c RL cL_known 4 (some .int) g A := X
  have hW : fz_W g A s (FW g f a d v u ++ [LR g q lf]) s.heap [] := hW
  refine lv_aload_n hx hb dL_known_0 rfl (lv_at hl 2 rfl) ?_
  refine lv_iconst (v := 0) hx hb dL_known_1 (by decide) ?_
  refine lv_aload_n hx hb dL_known_2 rfl (lv_at hl 0 rfl) ?_
  refine lv_iload_n hx hb dL_known_3 rfl (lv_at hl 1 rfl) ?_
  refine fz_cVX X Y hW (fz_CX.lr (c_X3_known l hfl g f a d v u x hkc) q lf) lk_L_41 (ci := 3) (q0 := 0) rfl rfl rfl rfl ⟨(Nat.le_of_ble_eq_true rfl), (Nat.le_of_ble_eq_true rfl)⟩ hl rfl (Nat.le_of_ble_eq_true rfl) dL_known_4 ⟨(Nat.le_of_ble_eq_true rfl), (Nat.le_of_ble_eq_true rfl)⟩ (fun E q9 ce H locs hex hW hc1 hc2 hc3 => ?_) (fun H locs hex hW => ?_)
  · skip
    have eE := exK_E hex
    subst eE
    refine vx_catch (own := RL) (name := XIO) X.2.2.2.2.1 [] ⟨0, 9, 12, 13⟩ [] htab (fun z hz => absurd hz List.not_mem_nil) (by decide) (by decide) (X.2.2.2.2.2.2.1.use xl_io args) (X.2.2.2.2.2.2.1.use xs_io args) hc1 hc2 hc3 (show W p l e _ s m args below meth c _ _ _ _ _ (F0 m 12 ls [.ref q9]) from ?_)
    refine lv_astore_n (lv' := [(3, .ref q9), (0, .ref f), (1, .int x), (2, .ref q)]) hx hb dL_known_12 rfl hl (by decide) rfl (fun ls hl => ?_)
    refine lv_iconst (v := 1) hx hb dL_known_13 (by decide) ?_
    exact fz_rw X (fz_cast (h1 _ hex).1.symm hW) (h1 _ hex).2.symm ⟨(Nat.le_of_ble_eq_true rfl), (Nat.le_of_ble_eq_true rfl)⟩ dL_known_14
  · skip
    refine lv_i2l hx hb dL_known_7 rfl ?_
    refine fz_js X hW 35 0 rfl rfl (by omega) (by decide) dL_known_8 (fun H locs hW => ?_)
    have hW : fz_W g A s (FW g f a d (v) (u) ++ [LR g q (vp_updL lf 0 (v.kp x.toNatClampNeg).toInt64)]) H locs := hW
    refine lv_goto (tgt := 15) hx hb dL_known_9 (by decide) ?_
    refine lv_iconst (v := 0) hx hb dL_known_15 (by decide) ?_
    exact fz_rw X (fz_cast (h0 hex).1.symm hW) (h0 hex).2.symm ⟨(Nat.le_of_ble_eq_true rfl), (Nat.le_of_ble_eq_true rfl)⟩ dL_known_16
theorem lh_105 : fz_LH RL 105 yL_known cL_known 4 [(0, 9, 12, 13)] 3 := ⟨ii_L, ⟨List.mem_of_getElem? (i := 477) (by decide +kernel), by decide +kernel⟩, ⟨by decide +kernel, by decide +kernel, by decide +kernel⟩, ⟨List.mem_of_getElem? (i := 475) (by decide +kernel), by decide +kernel⟩, ⟨List.mem_of_getElem? (i := 476) (by decide +kernel), by decide +kernel⟩⟩
set_option maxHeartbeats 4000000 in
set_option maxRecDepth 100000 in
theorem h_sent (l : Launch) (hfl : l.stackTraces = false) (g : GG) (f : Nat) (a d : Nat → Nat) (v u : SV) (q : Nat) (lf : Nat → Int64) (x : Int32) (W1 : va_W) (r : Int32) (h0 : exS x = none → W1 = FW g f a d (v) (u) ++ [LR g q (vp_updL lf 0 (v.sc x.toNatClampNeg).toInt64)] ∧ r = 0) (h1 : ∀ E, exS x = some E → W1 = FW g f a d v u ++ [LR g q lf] ∧ r = cd1 E) : fz_CH l g yL_sent cL_sent 4 [(0, 9, 12, 15)] 7 1 6 111 [.ref f, .int x, .ref q] (FW g f a d v u ++ [LR g q lf]) W1 r := by
  refine fz_CH.of (by decide) (Nat.le_of_ble_eq_true rfl) ?_
  intro p e s m args below meth c A ls X Y hN htab hW hl
  have hx := X.1
  have hb := X.2.1
  have hl : lv_has ls 4 [(0, .ref f), (1, .int x), (2, .ref q)] := hl
  have X : fz_X p s m meth c RL cL_sent 4 (some .int) g A := X
  have hW : fz_W g A s (FW g f a d v u ++ [LR g q lf]) s.heap [] := hW
  refine lv_aload_n hx hb dL_sent_0 rfl (lv_at hl 2 rfl) ?_
  refine lv_iconst (v := 0) hx hb dL_sent_1 (by decide) ?_
  refine lv_aload_n hx hb dL_sent_2 rfl (lv_at hl 0 rfl) ?_
  refine lv_iload_n hx hb dL_sent_3 rfl (lv_at hl 1 rfl) ?_
  refine fz_cVX X Y hW (fz_CX.lr (c_X3_sent l hfl g f a d v u x) q lf) lk_L_44 (ci := 3) (q0 := 0) rfl rfl rfl rfl ⟨(Nat.le_of_ble_eq_true rfl), (Nat.le_of_ble_eq_true rfl)⟩ hl rfl (Nat.le_of_ble_eq_true rfl) dL_sent_4 ⟨(Nat.le_of_ble_eq_true rfl), (Nat.le_of_ble_eq_true rfl)⟩ (fun E q9 ce H locs hex hW hc1 hc2 hc3 => ?_) (fun H locs hex hW => ?_)
  · skip
    have eE := exS_E hex
    subst eE
    refine vx_catch (own := RL) (name := XIA) X.2.2.2.2.1 [] ⟨0, 9, 12, 15⟩ [] htab (fun z hz => absurd hz List.not_mem_nil) (by decide) (by decide) (X.2.2.2.2.2.2.1.use xl_ia args) (X.2.2.2.2.2.2.1.use xs_ia args) hc1 hc2 hc3 (show W p l e _ s m args below meth c _ _ _ _ _ (F0 m 12 ls [.ref q9]) from ?_)
    refine lv_astore_n (lv' := [(3, .ref q9), (0, .ref f), (1, .int x), (2, .ref q)]) hx hb dL_sent_12 rfl hl (by decide) rfl (fun ls hl => ?_)
    refine lv_iconst (v := 1) hx hb dL_sent_13 (by decide) ?_
    exact fz_rw X (fz_cast (h1 _ hex).1.symm hW) (h1 _ hex).2.symm ⟨(Nat.le_of_ble_eq_true rfl), (Nat.le_of_ble_eq_true rfl)⟩ dL_sent_14
  · skip
    refine lv_i2l hx hb dL_sent_7 rfl ?_
    refine fz_js X hW 35 0 rfl rfl (by omega) (by decide) dL_sent_8 (fun H locs hW => ?_)
    have hW : fz_W g A s (FW g f a d (v) (u) ++ [LR g q (vp_updL lf 0 (v.sc x.toNatClampNeg).toInt64)]) H locs := hW
    refine lv_goto (tgt := 15) hx hb dL_sent_9 (by decide) ?_
    refine lv_iconst (v := 0) hx hb dL_sent_15 (by decide) ?_
    exact fz_rw X (fz_cast (h0 hex).1.symm hW) (h0 hex).2.symm ⟨(Nat.le_of_ble_eq_true rfl), (Nat.le_of_ble_eq_true rfl)⟩ dL_sent_16
theorem lh_112 : fz_LH RL 112 yL_sent cL_sent 4 [(0, 9, 12, 15)] 3 := ⟨ii_L, ⟨List.mem_of_getElem? (i := 485) (by decide +kernel), by decide +kernel⟩, ⟨by decide +kernel, by decide +kernel, by decide +kernel⟩, ⟨List.mem_of_getElem? (i := 483) (by decide +kernel), by decide +kernel⟩, ⟨List.mem_of_getElem? (i := 484) (by decide +kernel), by decide +kernel⟩⟩
set_option maxHeartbeats 4000000 in
set_option maxRecDepth 100000 in
theorem h_stepsToGo (l : Launch) (hfl : l.stackTraces = false) (g : GG) (f : Nat) (a d : Nat → Nat) (v u : SV) (q : Nat) (lf : Nat → Int64) (x : Int32) (hok : SOK v) (W1 : va_W) (r : Int32) (h0 : exG x = none → W1 = FW g f a d (v) ((stgF x (coV u v) 0 100).2) ++ [LR g q (vp_updL lf 0 ((stgF x (coV u v) 0 100).1).toInt64)] ∧ r = 0) (h1 : ∀ E, exG x = some E → W1 = FW g f a d v u ++ [LR g q lf] ∧ r = cd1 E) : fz_CH l g yL_stepsToGo cL_stepsToGo 4 [(0, 9, 12, 15)] 8 1 6 169 [.ref f, .int x, .ref q] (FW g f a d v u ++ [LR g q lf]) W1 r := by
  refine fz_CH.of (by decide) (Nat.le_of_ble_eq_true rfl) ?_
  intro p e s m args below meth c A ls X Y hN htab hW hl
  have hx := X.1
  have hb := X.2.1
  have hl : lv_has ls 4 [(0, .ref f), (1, .int x), (2, .ref q)] := hl
  have X : fz_X p s m meth c RL cL_stepsToGo 4 (some .int) g A := X
  have hW : fz_W g A s (FW g f a d v u ++ [LR g q lf]) s.heap [] := hW
  refine lv_aload_n hx hb dL_stepsToGo_0 rfl (lv_at hl 2 rfl) ?_
  refine lv_iconst (v := 0) hx hb dL_stepsToGo_1 (by decide) ?_
  refine lv_aload_n hx hb dL_stepsToGo_2 rfl (lv_at hl 0 rfl) ?_
  refine lv_iload_n hx hb dL_stepsToGo_3 rfl (lv_at hl 1 rfl) ?_
  refine fz_cVX X Y hW (fz_CX.lr (c_X3_stepsToGo l hfl g f a d v u x hok) q lf) lk_L_47 (ci := 3) (q0 := 0) rfl rfl rfl rfl ⟨(Nat.le_of_ble_eq_true rfl), (Nat.le_of_ble_eq_true rfl)⟩ hl rfl (Nat.le_of_ble_eq_true rfl) dL_stepsToGo_4 ⟨(Nat.le_of_ble_eq_true rfl), (Nat.le_of_ble_eq_true rfl)⟩ (fun E q9 ce H locs hex hW hc1 hc2 hc3 => ?_) (fun H locs hex hW => ?_)
  · skip
    have eE := exG_E hex
    subst eE
    refine vx_catch (own := RL) (name := XIA) X.2.2.2.2.1 [] ⟨0, 9, 12, 15⟩ [] htab (fun z hz => absurd hz List.not_mem_nil) (by decide) (by decide) (X.2.2.2.2.2.2.1.use xl_ia args) (X.2.2.2.2.2.2.1.use xs_ia args) hc1 hc2 hc3 (show W p l e _ s m args below meth c _ _ _ _ _ (F0 m 12 ls [.ref q9]) from ?_)
    refine lv_astore_n (lv' := [(3, .ref q9), (0, .ref f), (1, .int x), (2, .ref q)]) hx hb dL_stepsToGo_12 rfl hl (by decide) rfl (fun ls hl => ?_)
    refine lv_iconst (v := 1) hx hb dL_stepsToGo_13 (by decide) ?_
    exact fz_rw X (fz_cast (h1 _ hex).1.symm hW) (h1 _ hex).2.symm ⟨(Nat.le_of_ble_eq_true rfl), (Nat.le_of_ble_eq_true rfl)⟩ dL_stepsToGo_14
  · skip
    refine lv_i2l hx hb dL_stepsToGo_7 rfl ?_
    refine fz_js X hW 35 0 rfl rfl (by omega) (by decide) dL_stepsToGo_8 (fun H locs hW => ?_)
    have hW : fz_W g A s (FW g f a d (v) ((stgF x (coV u v) 0 100).2) ++ [LR g q (vp_updL lf 0 ((stgF x (coV u v) 0 100).1).toInt64)]) H locs := hW
    refine lv_goto (tgt := 15) hx hb dL_stepsToGo_9 (by decide) ?_
    refine lv_iconst (v := 0) hx hb dL_stepsToGo_15 (by decide) ?_
    exact fz_rw X (fz_cast (h0 hex).1.symm hW) (h0 hex).2.symm ⟨(Nat.le_of_ble_eq_true rfl), (Nat.le_of_ble_eq_true rfl)⟩ dL_stepsToGo_16
theorem lh_123 : fz_LH RL 123 yL_stepsToGo cL_stepsToGo 4 [(0, 9, 12, 15)] 3 := ⟨ii_L, ⟨List.mem_of_getElem? (i := 493) (by decide +kernel), by decide +kernel⟩, ⟨by decide +kernel, by decide +kernel, by decide +kernel⟩, ⟨List.mem_of_getElem? (i := 491) (by decide +kernel), by decide +kernel⟩, ⟨List.mem_of_getElem? (i := 492) (by decide +kernel), by decide +kernel⟩⟩
