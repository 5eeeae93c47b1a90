/-! the law's cases: time, unlike, rough, waiting, knownPictures, used, anew -/
set_option maxHeartbeats 4000000 in
set_option maxRecDepth 100000 in
theorem lc_time {p : Program} {l : Launch} {e : Env} {s : State} {m : MethodId} {args : Array Value} {below : List Frame} {meth : Method} {c : Code} {H : Heap} {locs : List Loc} {cells slots : Nat} {Q : State → Prop} {rt : Option FieldType} {g : GG} {A : Nat → Prop} {ls : Array Slot} {b0 L i K f q : Nat} {xs : Nat → Int32} {a d o : Nat → Nat} {v u : SV} {lf : Nat → Int64} {w : MV} (X : fz_X p s m meth c RL cL_law 7 rt g A) (Y : fz_Y s A) (hN : va_Nc XIA XIO s) (hfl : l.stackTraces = false) (hX : va_X b0 L xs s s.heap) (hbl : b0 < s.heap.size) (hbA : ¬ A b0) (hL : L ≤ 3584) (hi : i + 7 ≤ L) (hB : Both v w K) (hK : K ≤ 1000) (hcs : cells + 5 ≤ 601024 ∧ slots + 30 ≤ 7293034) (hW : fz_W g A s (LW g f a d v u q lf o w) H locs) (hl : lv_has ls 7 (lo5 b0 f (o 0) q i))
    (kk : ∀ (v u : SV) (lf : Nat → Int64) (w : MV) (H : Heap) (locs : List Loc) (ls : Array Slot), Both v w (K + 1) → fz_W g A s (LW g f a d v u q lf o w) H locs → lv_has ls 7 (lo5 b0 f (o 0) q i) → W p l e room_1 s m args below meth c H locs (cells + 5) (slots + 30) Q (F0 m 1006 ls [])) : W p l e room_1 s m args below meth c H locs cells slots Q (F0 m 474 ls []) := by
  have hx := X.1
  have hb := X.2.1
  have hl : lv_has ls 7 [(0, .ref b0), (1, .ref f), (2, .ref (o 0)), (3, .ref q), (4, .int (nI i))] := hl
  have t2 : v.now = w.time := hB.1.2.2.2.2.2.2.2.2.2.2.2.2.2.1
  refine lv_aload_n hx hb dL_law_474 rfl (lv_at hl 1 rfl) ?_
  refine fz_cVi X hW (fz_C.lwF (c_X3_time l g f a d v u) q lf o w) lk_L_76 (ci := 3) (q0 := 0) rfl rfl rfl rfl ⟨(Nat.le_of_ble_eq_true rfl), (Nat.le_of_ble_eq_true rfl)⟩ hl rfl (Nat.le_of_ble_eq_true rfl) dL_law_475 (ce0 hcs) (fun H locs hW => ?_)
  refine lv_aload_n hx hb dL_law_478 rfl (lv_at hl 2 rfl) ?_
  refine fz_cVi X hW (fz_C.lwM (c_X4_time l g o w) f a d v u q lf) lk_L_79 (ci := 4) (q0 := 36) rfl rfl rfl rfl ⟨(Nat.le_of_ble_eq_true rfl), (Nat.le_of_ble_eq_true rfl)⟩ hl rfl (Nat.le_of_ble_eq_true rfl) dL_law_479 (ce0 hcs) (fun H locs hW => ?_)
  refine lv_icmp_eq (tgt := 1006) hx hb dL_law_482 (by decide) (fun c3 => ?_) (fun c3 => absurd t2 c3)
  refine W.widen (k := cells + 5) (n := slots + 30) (by omega) (by omega) ?_
  exact kk v u lf (w.thrS 0) _ _ _ (both_t hB hK 0) hW hl
set_option maxHeartbeats 4000000 in
set_option maxRecDepth 100000 in
theorem lc_unlike {p : Program} {l : Launch} {e : Env} {s : State} {m : MethodId} {args : Array Value} {below : List Frame} {meth : Method} {c : Code} {H : Heap} {locs : List Loc} {cells slots : Nat} {Q : State → Prop} {rt : Option FieldType} {g : GG} {A : Nat → Prop} {ls : Array Slot} {b0 L i K f q : Nat} {xs : Nat → Int32} {a d o : Nat → Nat} {v u : SV} {lf : Nat → Int64} {w : MV} (X : fz_X p s m meth c RL cL_law 7 rt g A) (Y : fz_Y s A) (hN : va_Nc XIA XIO s) (hfl : l.stackTraces = false) (hX : va_X b0 L xs s s.heap) (hbl : b0 < s.heap.size) (hbA : ¬ A b0) (hL : L ≤ 3584) (hi : i + 7 ≤ L) (hB : Both v w K) (hK : K ≤ 1000) (hcs : cells + 5 ≤ 601024 ∧ slots + 30 ≤ 7293034) (hW : fz_W g A s (LW g f a d v u q lf o w) H locs) (hl : lv_has ls 7 (lo5 b0 f (o 0) q i))
    (kk : ∀ (v u : SV) (lf : Nat → Int64) (w : MV) (H : Heap) (locs : List Loc) (ls : Array Slot), Both v w (K + 1) → fz_W g A s (LW g f a d v u q lf o w) H locs → lv_has ls 7 (lo5 b0 f (o 0) q i) → W p l e room_1 s m args below meth c H locs (cells + 5) (slots + 30) Q (F0 m 1006 ls [])) : W p l e room_1 s m args below meth c H locs cells slots Q (F0 m 759 ls []) := by
  have hx := X.1
  have hb := X.2.1
  have hl : lv_has ls 7 [(0, .ref b0), (1, .ref f), (2, .ref (o 0)), (3, .ref q), (4, .int (nI i))] := hl
  have t2 : usF v 48 = muL w.since 48 := alk_unlike hB.1
  refine lv_aload_n hx hb dL_law_759 rfl (lv_at hl 1 rfl) ?_
  refine fz_cVl X hW (fz_C.lwF (c_X3_unlike l g f a d v u) q lf o w) lk_L_92 (ci := 3) (q0 := 0) rfl rfl rfl rfl ⟨(Nat.le_of_ble_eq_true rfl), (Nat.le_of_ble_eq_true rfl)⟩ hl rfl (Nat.le_of_ble_eq_true rfl) dL_law_760 (ce0 hcs) (fun H locs hW => ?_)
  refine lv_aload_n hx hb dL_law_763 rfl (lv_at hl 2 rfl) ?_
  refine fz_cVl X hW (fz_C.lwM (c_X4_unlike l g o w) f a d v u q lf) lk_L_96 (ci := 4) (q0 := 36) rfl rfl rfl rfl ⟨(Nat.le_of_ble_eq_true rfl), (Nat.le_of_ble_eq_true rfl)⟩ hl rfl (Nat.le_of_ble_eq_true rfl) dL_law_764 (ce0 hcs) (fun H locs hW => ?_)
  refine W.lcmp hx hb dL_law_767 ?_
  refine lv_if_eq (tgt := 1006) hx hb dL_law_768 (by decide) (fun c3 => ?_) (fun c3 => absurd (lg_same t2) c3)
  refine W.widen (k := cells + 5) (n := slots + 30) (by omega) (by omega) ?_
  exact kk v u lf (w.thrS 0) _ _ _ (both_t hB hK 0) hW hl
set_option maxHeartbeats 4000000 in
set_option maxRecDepth 100000 in
theorem lc_rough {p : Program} {l : Launch} {e : Env} {s : State} {m : MethodId} {args : Array Value} {below : List Frame} {meth : Method} {c : Code} {H : Heap} {locs : List Loc} {cells slots : Nat} {Q : State → Prop} {rt : Option FieldType} {g : GG} {A : Nat → Prop} {ls : Array Slot} {b0 L i K f q : Nat} {xs : Nat → Int32} {a d o : Nat → Nat} {v u : SV} {lf : Nat → Int64} {w : MV} (X : fz_X p s m meth c RL cL_law 7 rt g A) (Y : fz_Y s A) (hN : va_Nc XIA XIO s) (hfl : l.stackTraces = false) (hX : va_X b0 L xs s s.heap) (hbl : b0 < s.heap.size) (hbA : ¬ A b0) (hL : L ≤ 3584) (hi : i + 7 ≤ L) (hB : Both v w K) (hK : K ≤ 1000) (hcs : cells + 5 ≤ 601024 ∧ slots + 30 ≤ 7293034) (hW : fz_W g A s (LW g f a d v u q lf o w) H locs) (hl : lv_has ls 7 (lo5 b0 f (o 0) q i))
    (kk : ∀ (v u : SV) (lf : Nat → Int64) (w : MV) (H : Heap) (locs : List Loc) (ls : Array Slot), Both v w (K + 1) → fz_W g A s (LW g f a d v u q lf o w) H locs → lv_has ls 7 (lo5 b0 f (o 0) q i) → W p l e room_1 s m args below meth c H locs (cells + 5) (slots + 30) Q (F0 m 1006 ls [])) : W p l e room_1 s m args below meth c H locs cells slots Q (F0 m 773 ls []) := by
  have hx := X.1
  have hb := X.2.1
  have hl : lv_has ls 7 [(0, .ref b0), (1, .ref f), (2, .ref (o 0)), (3, .ref q), (4, .int (nI i))] := hl
  have t2 : crF v 48 = mcR w.far 48 := alk_rough hB.1
  refine lv_aload_n hx hb dL_law_773 rfl (lv_at hl 1 rfl) ?_
  refine fz_cVi X hW (fz_C.lwF (c_X3_rough l g f a d v u) q lf o w) lk_L_97 (ci := 3) (q0 := 0) rfl rfl rfl rfl ⟨(Nat.le_of_ble_eq_true rfl), (Nat.le_of_ble_eq_true rfl)⟩ hl rfl (Nat.le_of_ble_eq_true rfl) dL_law_774 (ce0 hcs) (fun H locs hW => ?_)
  refine lv_aload_n hx hb dL_law_777 rfl (lv_at hl 2 rfl) ?_
  refine fz_cVi X hW (fz_C.lwM (c_X4_rough l g o w) f a d v u q lf) lk_L_100 (ci := 4) (q0 := 36) rfl rfl rfl rfl ⟨(Nat.le_of_ble_eq_true rfl), (Nat.le_of_ble_eq_true rfl)⟩ hl rfl (Nat.le_of_ble_eq_true rfl) dL_law_778 (ce0 hcs) (fun H locs hW => ?_)
  refine lv_icmp_eq (tgt := 1006) hx hb dL_law_781 (by decide) (fun c3 => ?_) (fun c3 => absurd t2 c3)
  refine W.widen (k := cells + 5) (n := slots + 30) (by omega) (by omega) ?_
  exact kk v u lf (w.thrS 0) _ _ _ (both_t hB hK 0) hW hl
set_option maxHeartbeats 4000000 in
set_option maxRecDepth 100000 in
theorem lc_waiting {p : Program} {l : Launch} {e : Env} {s : State} {m : MethodId} {args : Array Value} {below : List Frame} {meth : Method} {c : Code} {H : Heap} {locs : List Loc} {cells slots : Nat} {Q : State → Prop} {rt : Option FieldType} {g : GG} {A : Nat → Prop} {ls : Array Slot} {b0 L i K f q : Nat} {xs : Nat → Int32} {a d o : Nat → Nat} {v u : SV} {lf : Nat → Int64} {w : MV} (X : fz_X p s m meth c RL cL_law 7 rt g A) (Y : fz_Y s A) (hN : va_Nc XIA XIO s) (hfl : l.stackTraces = false) (hX : va_X b0 L xs s s.heap) (hbl : b0 < s.heap.size) (hbA : ¬ A b0) (hL : L ≤ 3584) (hi : i + 7 ≤ L) (hB : Both v w K) (hK : K ≤ 1000) (hcs : cells + 5 ≤ 601024 ∧ slots + 30 ≤ 7293034) (hW : fz_W g A s (LW g f a d v u q lf o w) H locs) (hl : lv_has ls 7 (lo5 b0 f (o 0) q i))
    (kk : ∀ (v u : SV) (lf : Nat → Int64) (w : MV) (H : Heap) (locs : List Loc) (ls : Array Slot), Both v w (K + 1) → fz_W g A s (LW g f a d v u q lf o w) H locs → lv_has ls 7 (lo5 b0 f (o 0) q i) → W p l e room_1 s m args below meth c H locs (cells + 5) (slots + 30) Q (F0 m 1006 ls [])) : W p l e room_1 s m args below meth c H locs cells slots Q (F0 m 786 ls []) := by
  have hx := X.1
  have hb := X.2.1
  have hl : lv_has ls 7 [(0, .ref b0), (1, .ref f), (2, .ref (o 0)), (3, .ref q), (4, .int (nI i))] := hl
  have t2 : nI v.wm = nI w.moves := congrArg nI hB.1.2.2.2.2.2.1
  refine lv_aload_n hx hb dL_law_786 rfl (lv_at hl 1 rfl) ?_
  refine fz_cVi X hW (fz_C.lwF (c_X3_waiting l g f a d v u) q lf o w) lk_L_101 (ci := 3) (q0 := 0) rfl rfl rfl rfl ⟨(Nat.le_of_ble_eq_true rfl), (Nat.le_of_ble_eq_true rfl)⟩ hl rfl (Nat.le_of_ble_eq_true rfl) dL_law_787 (ce0 hcs) (fun H locs hW => ?_)
  refine lv_aload_n hx hb dL_law_790 rfl (lv_at hl 2 rfl) ?_
  refine fz_cVi X hW (fz_C.lwM (c_X4_waiting l g o w) f a d v u q lf) lk_L_104 (ci := 4) (q0 := 36) rfl rfl rfl rfl ⟨(Nat.le_of_ble_eq_true rfl), (Nat.le_of_ble_eq_true rfl)⟩ hl rfl (Nat.le_of_ble_eq_true rfl) dL_law_791 (ce0 hcs) (fun H locs hW => ?_)
  refine lv_icmp_eq (tgt := 1006) hx hb dL_law_794 (by decide) (fun c3 => ?_) (fun c3 => absurd t2 c3)
  refine W.widen (k := cells + 5) (n := slots + 30) (by omega) (by omega) ?_
  exact kk v u lf (w.thrS 0) _ _ _ (both_t hB hK 0) hW hl
set_option maxHeartbeats 4000000 in
set_option maxRecDepth 100000 in
theorem lc_knownPictures {p : Program} {l : Launch} {e : Env} {s : State} {m : MethodId} {args : Array Value} {below : List Frame} {meth : Method} {c : Code} {H : Heap} {locs : List Loc} {cells slots : Nat} {Q : State → Prop} {rt : Option FieldType} {g : GG} {A : Nat → Prop} {ls : Array Slot} {b0 L i K f q : Nat} {xs : Nat → Int32} {a d o : Nat → Nat} {v u : SV} {lf : Nat → Int64} {w : MV} (X : fz_X p s m meth c RL cL_law 7 rt g A) (Y : fz_Y s A) (hN : va_Nc XIA XIO s) (hfl : l.stackTraces = false) (hX : va_X b0 L xs s s.heap) (hbl : b0 < s.heap.size) (hbA : ¬ A b0) (hL : L ≤ 3584) (hi : i + 7 ≤ L) (hB : Both v w K) (hK : K ≤ 1000) (hcs : cells + 5 ≤ 601024 ∧ slots + 30 ≤ 7293034) (hW : fz_W g A s (LW g f a d v u q lf o w) H locs) (hl : lv_has ls 7 (lo5 b0 f (o 0) q i))
    (kk : ∀ (v u : SV) (lf : Nat → Int64) (w : MV) (H : Heap) (locs : List Loc) (ls : Array Slot), Both v w (K + 1) → fz_W g A s (LW g f a d v u q lf o w) H locs → lv_has ls 7 (lo5 b0 f (o 0) q i) → W p l e room_1 s m args below meth c H locs (cells + 5) (slots + 30) Q (F0 m 1006 ls [])) : W p l e room_1 s m args below meth c H locs cells slots Q (F0 m 855 ls []) := by
  have hx := X.1
  have hb := X.2.1
  have hl : lv_has ls 7 [(0, .ref b0), (1, .ref f), (2, .ref (o 0)), (3, .ref q), (4, .int (nI i))] := hl
  have t2 : nI v.kc = nI w.pics := congrArg nI hB.1.2.2.2.2.2.2.2.2.1
  refine lv_aload_n hx hb dL_law_855 rfl (lv_at hl 1 rfl) ?_
  refine fz_cVi X hW (fz_C.lwF (c_X3_knownPictures l g f a d v u) q lf o w) lk_L_108 (ci := 3) (q0 := 0) rfl rfl rfl rfl ⟨(Nat.le_of_ble_eq_true rfl), (Nat.le_of_ble_eq_true rfl)⟩ hl rfl (Nat.le_of_ble_eq_true rfl) dL_law_856 (ce0 hcs) (fun H locs hW => ?_)
  refine lv_aload_n hx hb dL_law_859 rfl (lv_at hl 2 rfl) ?_
  refine fz_cVi X hW (fz_C.lwM (c_X4_knownPictures l g o w) f a d v u q lf) lk_L_111 (ci := 4) (q0 := 36) rfl rfl rfl rfl ⟨(Nat.le_of_ble_eq_true rfl), (Nat.le_of_ble_eq_true rfl)⟩ hl rfl (Nat.le_of_ble_eq_true rfl) dL_law_860 (ce0 hcs) (fun H locs hW => ?_)
  refine lv_icmp_eq (tgt := 1006) hx hb dL_law_863 (by decide) (fun c3 => ?_) (fun c3 => absurd t2 c3)
  refine W.widen (k := cells + 5) (n := slots + 30) (by omega) (by omega) ?_
  exact kk v u lf (w.thrS 0) _ _ _ (both_t hB hK 0) hW hl
set_option maxHeartbeats 4000000 in
set_option maxRecDepth 100000 in
theorem lc_used {p : Program} {l : Launch} {e : Env} {s : State} {m : MethodId} {args : Array Value} {below : List Frame} {meth : Method} {c : Code} {H : Heap} {locs : List Loc} {cells slots : Nat} {Q : State → Prop} {rt : Option FieldType} {g : GG} {A : Nat → Prop} {ls : Array Slot} {b0 L i K f q : Nat} {xs : Nat → Int32} {a d o : Nat → Nat} {v u : SV} {lf : Nat → Int64} {w : MV} (X : fz_X p s m meth c RL cL_law 7 rt g A) (Y : fz_Y s A) (hN : va_Nc XIA XIO s) (hfl : l.stackTraces = false) (hX : va_X b0 L xs s s.heap) (hbl : b0 < s.heap.size) (hbA : ¬ A b0) (hL : L ≤ 3584) (hi : i + 7 ≤ L) (hB : Both v w K) (hK : K ≤ 1000) (hcs : cells + 5 ≤ 601024 ∧ slots + 30 ≤ 7293034) (hW : fz_W g A s (LW g f a d v u q lf o w) H locs) (hl : lv_has ls 7 (lo5 b0 f (o 0) q i))
    (kk : ∀ (v u : SV) (lf : Nat → Int64) (w : MV) (H : Heap) (locs : List Loc) (ls : Array Slot), Both v w (K + 1) → fz_W g A s (LW g f a d v u q lf o w) H locs → lv_has ls 7 (lo5 b0 f (o 0) q i) → W p l e room_1 s m args below meth c H locs (cells + 5) (slots + 30) Q (F0 m 1006 ls [])) : W p l e room_1 s m args below meth c H locs cells slots Q (F0 m 924 ls []) := by
  have hx := X.1
  have hb := X.2.1
  have hl : lv_has ls 7 [(0, .ref b0), (1, .ref f), (2, .ref (o 0)), (3, .ref q), (4, .int (nI i))] := hl
  have t2 : v.us = w.used := hB.1.2.2.2.2.2.2.2.2.2.2.2.2.1
  refine lv_aload_n hx hb dL_law_924 rfl (lv_at hl 1 rfl) ?_
  refine fz_cVi X hW (fz_C.lwF (c_X3_used l g f a d v u) q lf o w) lk_L_115 (ci := 3) (q0 := 0) rfl rfl rfl rfl ⟨(Nat.le_of_ble_eq_true rfl), (Nat.le_of_ble_eq_true rfl)⟩ hl rfl (Nat.le_of_ble_eq_true rfl) dL_law_925 (ce0 hcs) (fun H locs hW => ?_)
  refine lv_aload_n hx hb dL_law_928 rfl (lv_at hl 2 rfl) ?_
  refine fz_cVi X hW (fz_C.lwM (c_X4_used l g o w) f a d v u q lf) lk_L_118 (ci := 4) (q0 := 36) rfl rfl rfl rfl ⟨(Nat.le_of_ble_eq_true rfl), (Nat.le_of_ble_eq_true rfl)⟩ hl rfl (Nat.le_of_ble_eq_true rfl) dL_law_929 (ce0 hcs) (fun H locs hW => ?_)
  refine lv_icmp_eq (tgt := 1006) hx hb dL_law_932 (by decide) (fun c3 => ?_) (fun c3 => absurd t2 c3)
  refine W.widen (k := cells + 5) (n := slots + 30) (by omega) (by omega) ?_
  exact kk v u lf (w.thrS 0) _ _ _ (both_t hB hK 0) hW hl
set_option maxHeartbeats 4000000 in
set_option maxRecDepth 100000 in
theorem lc_anew {p : Program} {l : Launch} {e : Env} {s : State} {m : MethodId} {args : Array Value} {below : List Frame} {meth : Method} {c : Code} {H : Heap} {locs : List Loc} {cells slots : Nat} {Q : State → Prop} {rt : Option FieldType} {g : GG} {A : Nat → Prop} {ls : Array Slot} {b0 L i K f q : Nat} {xs : Nat → Int32} {a d o : Nat → Nat} {v u : SV} {lf : Nat → Int64} {w : MV} (X : fz_X p s m meth c RL cL_law 7 rt g A) (Y : fz_Y s A) (hN : va_Nc XIA XIO s) (hfl : l.stackTraces = false) (hX : va_X b0 L xs s s.heap) (hbl : b0 < s.heap.size) (hbA : ¬ A b0) (hL : L ≤ 3584) (hi : i + 7 ≤ L) (hB : Both v w K) (hK : K ≤ 1000) (hcs : cells + 5 ≤ 601024 ∧ slots + 30 ≤ 7293034) (hW : fz_W g A s (LW g f a d v u q lf o w) H locs) (hl : lv_has ls 7 (lo5 b0 f (o 0) q i))
    (kk : ∀ (v u : SV) (lf : Nat → Int64) (w : MV) (H : Heap) (locs : List Loc) (ls : Array Slot), Both v w (K + 1) → fz_W g A s (LW g f a d v u q lf o w) H locs → lv_has ls 7 (lo5 b0 f (o 0) q i) → W p l e room_1 s m args below meth c H locs (cells + 5) (slots + 30) Q (F0 m 1006 ls [])) : W p l e room_1 s m args below meth c H locs cells slots Q (F0 m 937 ls []) := by
  have hx := X.1
  have hb := X.2.1
  have hl : lv_has ls 7 [(0, .ref b0), (1, .ref f), (2, .ref (o 0)), (3, .ref q), (4, .int (nI i))] := hl
  have t2 : anF v 48 = manF w.near 48 := alk_anew hB.1
  refine lv_aload_n hx hb dL_law_937 rfl (lv_at hl 1 rfl) ?_
  refine fz_cVi X hW (fz_C.lwF (c_X3_anew l g f a d v u) q lf o w) lk_L_119 (ci := 3) (q0 := 0) rfl rfl rfl rfl ⟨(Nat.le_of_ble_eq_true rfl), (Nat.le_of_ble_eq_true rfl)⟩ hl rfl (Nat.le_of_ble_eq_true rfl) dL_law_938 (ce0 hcs) (fun H locs hW => ?_)
  refine lv_aload_n hx hb dL_law_941 rfl (lv_at hl 2 rfl) ?_
  refine fz_cVi X hW (fz_C.lwM (c_X4_anew l g o w) f a d v u q lf) lk_L_122 (ci := 4) (q0 := 36) rfl rfl rfl rfl ⟨(Nat.le_of_ble_eq_true rfl), (Nat.le_of_ble_eq_true rfl)⟩ hl rfl (Nat.le_of_ble_eq_true rfl) dL_law_942 (ce0 hcs) (fun H locs hW => ?_)
  refine lv_icmp_eq (tgt := 1006) hx hb dL_law_945 (by decide) (fun c3 => ?_) (fun c3 => absurd t2 c3)
  refine W.widen (k := cells + 5) (n := slots + 30) (by omega) (by omega) ?_
  exact kk v u lf (w.thrS 0) _ _ _ (both_t hB hK 0) hW hl
