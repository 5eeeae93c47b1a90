/-! what is refused, as the law asks it -/
theorem exK_end (k : Nat) (hk : k ≤ 8) : exK k (nI k) = some XIO := by
  unfold exK
  exact if_neg (fun h => absurd ((nI_ltI (a := k) (b := k) (by omega) (by omega)).mp h.2) (by omega))
theorem exT_8 : exT 8 0 = some XIO := if_neg (fun h => h.2.1 (by decide))
theorem exM_same {x y : Int32} (h : okB x y 1 1) : exM x y 1 1 x y = some XIA := by
  unfold exM
  rw [if_pos h, if_pos h, if_pos ⟨rfl, rfl⟩]
set_option maxHeartbeats 4000000 in
set_option maxRecDepth 100000 in
theorem h_known (l : Launch) (hfl : l.stackTraces = false) (g : GG) (f : Nat) (a d : Nat → Nat) (v u : SV) (hkc : v.kc ≤ 8) : fz_CH l g yL_refused cL_refused 5 [(0, 38, 39, 42), (0, 38, 43, 44)] 9 1 6 160 [.ref f, .int 0, .int (nI v.kc), .int 0] (FW g f a d v u) (FW g f a d v u) 1 := by
  refine fz_CH.of (by decide) (Nat.le_of_ble_eq_true rfl) ?_
  intro p e s m args below meth c A ls X Y hN htab hW hl
  have hx := X.1
  have hb := X.2.1
  have hl : lv_has ls 5 [(0, .ref f), (1, .int 0), (2, .int (nI v.kc)), (3, .int 0)] := hl
  have X : fz_X p s m meth c RL cL_refused 5 (some .int) g A := X
  have hW : fz_W g A s (FW g f a d v u) s.heap [] := hW
  refine lv_iload_n hx hb dL_refused_0 rfl (lv_at hl 1 rfl) ?_
  refine lv_if_ne (tgt := 12) hx hb dL_refused_1 (by decide) (fun c1 => ?_) (fun c1 => ?_)
  · exact absurd (by decide) c1
  refine lv_aload_n hx hb dL_refused_4 rfl (lv_at hl 0 rfl) ?_
  refine lv_iload_n hx hb dL_refused_5 rfl (lv_at hl 2 rfl) ?_
  refine fz_cVX X Y hW (c_X3_known l hfl g f a d v u (nI v.kc) hkc) lk_L_28 (ci := 3) (q0 := 0) rfl rfl rfl rfl ⟨(Nat.le_of_ble_eq_true rfl), (Nat.le_of_ble_eq_true rfl)⟩ hl rfl (Nat.le_of_ble_eq_true rfl) dL_refused_6 ⟨(Nat.le_of_ble_eq_true rfl), (Nat.le_of_ble_eq_true rfl)⟩ (fun E q9 ce H locs hex hW hc1 hc2 hc3 => ?_) (fun H locs hex hW => absurd ((exK_end v.kc hkc).symm.trans hex) (fun z => by cases z))
  have eE : E = XIO := (Option.some.inj ((exK_end v.kc hkc).symm.trans hex)).symm
  subst eE
  refine vx_catch (own := RL) (name := XIO) X.2.2.2.2.1 [] ⟨0, 38, 39, 42⟩ [⟨0, 38, 43, 44⟩] htab (fun z hz => absurd hz List.not_mem_nil) (by decide) (by decide) (X.2.2.2.2.2.2.1.use xl_io args) (X.2.2.2.2.2.2.1.use xs_io args) hc1 hc2 hc3 (show W p l e _ s m args below meth c _ _ _ _ _ (F0 m 39 ls [.ref q9]) from ?_)
  refine lv_astore (lv' := [(4, .ref q9), (0, .ref f), (1, .int 0), (2, .int (nI v.kc)), (3, .int 0)]) hx hb dL_refused_39 hl (by decide) rfl (fun ls hl => ?_)
  refine lv_iconst (v := 1) hx hb dL_refused_41 (by decide) ?_
  exact fz_rw X hW rfl ⟨(Nat.le_of_ble_eq_true rfl), (Nat.le_of_ble_eq_true rfl)⟩ dL_refused_42
set_option maxHeartbeats 4000000 in
set_option maxRecDepth 100000 in
theorem h_near8 (l : Launch) (hfl : l.stackTraces = false) (g : GG) (f : Nat) (a d : Nat → Nat) (v u : SV)  : fz_CH l g yL_refused cL_refused 5 [(0, 38, 39, 42), (0, 38, 43, 44)] 9 1 6 160 [.ref f, .int 1, .int 8, .int 0] (FW g f a d v u) (FW g f a d v u) 1 := by
  refine fz_CH.of (by decide) (Nat.le_of_ble_eq_true rfl) ?_
  intro p e s m args below meth c A ls X Y hN htab hW hl
  have hx := X.1
  have hb := X.2.1
  have hl : lv_has ls 5 [(0, .ref f), (1, .int 1), (2, .int 8), (3, .int 0)] := hl
  have X : fz_X p s m meth c RL cL_refused 5 (some .int) g A := X
  have hW : fz_W g A s (FW g f a d v u) s.heap [] := hW
  refine lv_iload_n hx hb dL_refused_0 rfl (lv_at hl 1 rfl) ?_
  refine lv_if_ne (tgt := 12) hx hb dL_refused_1 (by decide) (fun c1 => ?_) (fun c1 => ?_)
  rotate_left
  · exact absurd c1 (by decide)
  refine lv_iload_n hx hb dL_refused_12 rfl (lv_at hl 1 rfl) ?_
  refine lv_iconst (v := 1) hx hb dL_refused_13 (by decide) ?_
  refine lv_icmp_ne (tgt := 26) hx hb dL_refused_14 (by decide) (fun c1 => ?_) (fun c1 => ?_)
  · exact absurd (by decide) c1
  refine lv_aload_n hx hb dL_refused_17 rfl (lv_at hl 0 rfl) ?_
  refine lv_iload_n hx hb dL_refused_18 rfl (lv_at hl 2 rfl) ?_
  refine lv_iload_n hx hb dL_refused_19 rfl (lv_at hl 3 rfl) ?_
  refine fz_cVX X Y hW (c_X3_near l hfl g f a d v u 8 0) lk_L_34 (ci := 3) (q0 := 0) rfl rfl rfl rfl ⟨(Nat.le_of_ble_eq_true rfl), (Nat.le_of_ble_eq_true rfl)⟩ hl rfl (Nat.le_of_ble_eq_true rfl) dL_refused_20 ⟨(Nat.le_of_ble_eq_true rfl), (Nat.le_of_ble_eq_true rfl)⟩ (fun E q9 ce H locs hex hW hc1 hc2 hc3 => ?_) (fun H locs hex hW => absurd (exT_8.symm.trans hex) (fun z => by cases z))
  have eE : E = XIO := (Option.some.inj (exT_8.symm.trans hex)).symm
  subst eE
  refine vx_catch (own := RL) (name := XIO) X.2.2.2.2.1 [] ⟨0, 38, 39, 42⟩ [⟨0, 38, 43, 44⟩] htab (fun z hz => absurd hz List.not_mem_nil) (by decide) (by decide) (X.2.2.2.2.2.2.1.use xl_io args) (X.2.2.2.2.2.2.1.use xs_io args) hc1 hc2 hc3 (show W p l e _ s m args below meth c _ _ _ _ _ (F0 m 39 ls [.ref q9]) from ?_)
  refine lv_astore (lv' := [(4, .ref q9), (0, .ref f), (1, .int 1), (2, .int 8), (3, .int 0)]) hx hb dL_refused_39 hl (by decide) rfl (fun ls hl => ?_)
  refine lv_iconst (v := 1) hx hb dL_refused_41 (by decide) ?_
  exact fz_rw X hW rfl ⟨(Nat.le_of_ble_eq_true rfl), (Nat.le_of_ble_eq_true rfl)⟩ dL_refused_42
set_option maxHeartbeats 4000000 in
set_option maxRecDepth 100000 in
theorem h_move1 (l : Launch) (hfl : l.stackTraces = false) (g : GG) (f : Nat) (a d : Nat → Nat) (v u : SV) (x y : Int32) (hok : okB x y 1 1) (hwm : v.wm ≤ 4) : fz_CH l g yL_refused cL_refused 5 [(0, 38, 39, 42), (0, 38, 43, 44)] 9 5 30 160 [.ref f, .int 2, .int x, .int y] (FW g f a d v u) (FW g f a d v u) 2 := by
  refine fz_CH.of (by decide) (Nat.le_of_ble_eq_true rfl) ?_
  intro p e s m args below meth c A ls X Y hN htab hW hl
  have hx := X.1
  have hb := X.2.1
  have hl : lv_has ls 5 [(0, .ref f), (1, .int 2), (2, .int x), (3, .int y)] := hl
  have X : fz_X p s m meth c RL cL_refused 5 (some .int) g A := X
  have hW : fz_W g A s (FW g f a d v u) s.heap [] := hW
  refine lv_iload_n hx hb dL_refused_0 rfl (lv_at hl 1 rfl) ?_
  refine lv_if_ne (tgt := 12) hx hb dL_refused_1 (by decide) (fun c1 => ?_) (fun c1 => ?_)
  rotate_left
  · exact absurd c1 (by decide)
  refine lv_iload_n hx hb dL_refused_12 rfl (lv_at hl 1 rfl) ?_
  refine lv_iconst (v := 1) hx hb dL_refused_13 (by decide) ?_
  refine lv_icmp_ne (tgt := 26) hx hb dL_refused_14 (by decide) (fun c1 => ?_) (fun c1 => ?_)
  rotate_left
  · exact absurd c1 (by decide)
  refine lv_aload_n hx hb dL_refused_26 rfl (lv_at hl 0 rfl) ?_
  refine lv_iload_n hx hb dL_refused_27 rfl (lv_at hl 2 rfl) ?_
  refine lv_iload_n hx hb dL_refused_28 rfl (lv_at hl 3 rfl) ?_
  refine lv_iconst (v := 1) hx hb dL_refused_29 (by decide) ?_
  refine lv_iconst (v := 1) hx hb dL_refused_30 (by decide) ?_
  refine lv_iload_n hx hb dL_refused_31 rfl (lv_at hl 2 rfl) ?_
  refine lv_iload_n hx hb dL_refused_32 rfl (lv_at hl 3 rfl) ?_
  refine fz_cVX X Y hW (c_X3_move l hfl g f a d v u x y 1 1 x y hwm) lk_L_38 (ci := 3) (q0 := 0) rfl rfl rfl rfl ⟨(Nat.le_of_ble_eq_true rfl), (Nat.le_of_ble_eq_true rfl)⟩ hl rfl (Nat.le_of_ble_eq_true rfl) dL_refused_33 ⟨(Nat.le_of_ble_eq_true rfl), (Nat.le_of_ble_eq_true rfl)⟩ (fun E q9 ce H locs hex hW hc1 hc2 hc3 => ?_) (fun H locs hex hW => absurd ((exM_same hok).symm.trans hex) (fun z => by cases z))
  have eE : E = XIA := (Option.some.inj ((exM_same hok).symm.trans hex)).symm
  subst eE
  refine vx_catch (own := RL) (name := XIA) X.2.2.2.2.1 [⟨0, 38, 39, 42⟩] ⟨0, 38, 43, 44⟩ [] htab (fun z hz => Or.inr (by rw [List.mem_singleton.mp hz]; exact ⟨by decide, XIO, X.2.2.2.2.2.2.1.use xl_io args, hN⟩)) (by decide) (by decide) (X.2.2.2.2.2.2.1.use xl_ia args) (X.2.2.2.2.2.2.1.use xs_ia args) hc1 hc2 hc3 (show W p l e _ s m args below meth c _ _ _ _ _ (F0 m 43 ls [.ref q9]) from ?_)
  refine lv_astore (lv' := [(4, .ref q9), (0, .ref f), (1, .int 2), (2, .int x), (3, .int y)]) hx hb dL_refused_43 hl (by decide) rfl (fun ls hl => ?_)
  refine lv_iconst (v := 2) hx hb dL_refused_45 (by decide) ?_
  exact fz_rw X hW rfl ⟨(Nat.le_of_ble_eq_true rfl), (Nat.le_of_ble_eq_true rfl)⟩ dL_refused_46
theorem lh_71 : fz_LH RL 71 yL_refused cL_refused 5 [(0, 38, 39, 42), (0, 38, 43, 44)] 4 := ⟨ii_L, ⟨List.mem_of_getElem? (i := 441) (by decide +kernel), by decide +kernel⟩, ⟨by decide +kernel, by decide +kernel, by decide +kernel⟩, ⟨List.mem_of_getElem? (i := 439) (by decide +kernel), by decide +kernel⟩, ⟨List.mem_of_getElem? (i := 440) (by decide +kernel), by decide +kernel⟩⟩
