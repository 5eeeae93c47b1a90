/-! the law's loop -/
theorem lp_in {i L : Nat} (h : i ≤ L) (hL : L ≤ 3584) (c : ¬ nI L - 7 < nI i) : i + 7 ≤ L := by
  rw [Int32.lt_iff_toInt_lt, show nI L - 7 = nI L - nI 7 from rfl, pk_sub_toInt (by omega) (by omega), nI_toInt (by omega)] at c
  omega
set_option maxHeartbeats 4000000 in
set_option maxRecDepth 100000 in
theorem law_loop {p : Program} {l : Launch} {e : Env} {s : State} {m : MethodId} {below : List Frame} {meth : Method} {c : Code} {g : GG} {A : Nat → Prop} {b0 L f q : Nat} {xs : Nat → Int32} {a d o : Nat → Nat} (X : fz_X p s m meth c RL cL_law 7 ret g A) (Y : fz_Y s A) (hN : va_Nc XIA XIO s) (hfl : l.stackTraces = false) (hX : va_X b0 L xs s s.heap) (hbl : b0 < s.heap.size) (hbA : ¬ A b0) (hL : L ≤ 3584) (hAq : ∀ z, A z → s.heap.size ≤ z) :
    ∀ (n K : Nat), 7 * K ≤ L → L + 1 ≤ 7 * K + n → ∀ (v u : SV) (lf : Nat → Int64) (w : MV) (H : Heap) (locs : List Loc) (ls : Array Slot), Both v w K → fz_W g A s (LW g f a d v u q lf o w) H locs → lv_has ls 7 (lo5 b0 f (o 0) q (7 * K)) → W p l e room_1 s m #[Value.ref b0] below meth c H locs (60 + 5 * K) (2000 + 30 * K) (lw_Z below #[Value.ref b0] s) (F0 m 23 ls []) := by
  have hx := X.1
  have hb := X.2.1
  intro n
  induction n with
  | zero =>
    intro K h1 h2
    exact absurd h2 (by omega)
  | succ n ih =>
    intro K h1 h2 v u lf w H locs ls hB hW hl
    refine lv_iload hx hb dL_law_23 (lv_at hl 4 rfl) ?_
    refine lv_aload_n hx hb dL_law_25 rfl (lv_at hl 0 rfl) ?_
    refine va_slen X.1 X.2.1 hX hbl hbA hW.2.2 dL_law_26 ?_
    refine lv_bipush (v := 7) hx hb dL_law_27 (by decide) ?_
    refine lv_isub hx hb dL_law_29 ?_
    refine lv_icmp_gt (tgt := 1012) hx hb dL_law_30 (by decide) (fun c1 => ?_) (fun c1 => ?_)
    · refine lv_iconst (v := 1) hx hb dL_law_1012 (by decide) ?_
      refine va_forget (fun z hz => hAq _ (hW.2.2.2.2 z hz)) ?_
      refine W.widen (k := 601024) (n := 7293034) (by omega) (by omega) ?_
      exact lw_ret hx hb X.2.2.1 X.2.2.2.2.2.1 dL_law_1013
    · have hi : 7 * K + 7 ≤ L := lp_in h1 hL c1
      have hK : K ≤ 1000 := by omega
      have hcs : 60 + 5 * K + 5 ≤ 601024 ∧ 2000 + 30 * K + 30 ≤ 7293034 := ⟨by omega, by omega⟩
      refine lv_aload_n hx hb dL_law_33 rfl (lv_at hl 0 rfl) ?_
      refine lv_iload hx hb dL_law_34 (lv_at hl 4 rfl) ?_
      refine fz_sx X hW hX hbl hbA (7 * K) rfl (by omega) hL dL_law_36 ?_
      refine lv_bipush (v := 31) hx hb dL_law_37 (by decide) ?_
      refine lv_iand hx hb dL_law_39 ?_
      obtain ⟨j, hj, ej⟩ := pk_andE (xs (7 * K)) (m := 31) 5 (by decide)
      refine fz_top ej ?_
      have kk : ∀ (v u : SV) (lf : Nat → Int64) (w : MV) (H : Heap) (locs : List Loc) (ls : Array Slot), Both v w (K + 1) → fz_W g A s (LW g f a d v u q lf o w) H locs → lv_has ls 7 (lo5 b0 f (o 0) q (7 * K)) → W p l e room_1 s m #[Value.ref b0] below meth c H locs (60 + 5 * K + 5) (2000 + 30 * K + 30) (lw_Z below #[Value.ref b0] s) (F0 m 1006 ls []) := by
        intro v u lf w H locs ls hB hW hl
        refine lv_iinc (v := nI (7 * K + 7)) (lv' := [(4, .int (nI (7 * K + 7))), (0, .ref b0), (1, .ref f), (2, .ref (o 0)), (3, .ref q)]) hx hb dL_law_1006 hl (k := 4) rfl (nI_add (7 * K) 7) (by decide) rfl (fun ls hl => ?_)
        refine lv_goto (tgt := 23) hx hb dL_law_1009 (by decide) ?_
        rw [show 60 + 5 * K + 5 = 60 + 5 * (K + 1) by omega, show 2000 + 30 * K + 30 = 2000 + 30 * (K + 1) by omega]
        exact ih (K + 1) (by omega) (by omega) v u lf w H locs ls hB hW (lv_sub hl [1, 2, 3, 4, 0] rfl)
      rcases (show j = 0 ∨ j = 1 ∨ j = 2 ∨ j = 3 ∨ j = 4 ∨ j = 5 ∨ j = 6 ∨ j = 7 ∨ j = 8 ∨ j = 9 ∨ j = 10 ∨ j = 11 ∨ j = 12 ∨ j = 13 ∨ j = 14 ∨ j = 15 ∨ j = 16 ∨ j = 17 ∨ 17 < j by omega) with rfl | rfl | rfl | rfl | rfl | rfl | rfl | rfl | rfl | rfl | rfl | rfl | rfl | rfl | rfl | rfl | rfl | rfl | hj17
      · refine lv_tableIn (off := 88) (tgt := 128) hx hb dL_law_40 (by decide) (by decide) (by decide) (by decide) ?_
        exact lc_fill X Y hN hfl hX hbl hbA hL hi hB hK hcs hW hl kk
      · refine lv_tableIn (off := 192) (tgt := 232) hx hb dL_law_40 (by decide) (by decide) (by decide) (by decide) ?_
        exact lc_move X Y hN hfl hX hbl hbA hL hi hB hK hcs hW hl kk
      · refine lv_tableIn (off := 310) (tgt := 350) hx hb dL_law_40 (by decide) (by decide) (by decide) (by decide) ?_
        exact lc_look X Y hN hfl hX hbl hbA hL hi hB hK hcs hW hl kk
      · refine lv_tableIn (off := 378) (tgt := 418) hx hb dL_law_40 (by decide) (by decide) (by decide) (by decide) ?_
        exact lc_step X Y hN hfl hX hbl hbA hL hi hB hK hcs hW hl kk
      · refine lv_tableIn (off := 434) (tgt := 474) hx hb dL_law_40 (by decide) (by decide) (by decide) (by decide) ?_
        exact lc_time X Y hN hfl hX hbl hbA hL hi hB hK hcs hW hl kk
      · refine lv_tableIn (off := 447) (tgt := 487) hx hb dL_law_40 (by decide) (by decide) (by decide) (by decide) ?_
        exact lc_near X Y hN hfl hX hbl hbA hL hi hB hK hcs hW hl kk
      · refine lv_tableIn (off := 515) (tgt := 555) hx hb dL_law_40 (by decide) (by decide) (by decide) (by decide) ?_
        exact lc_far X Y hN hfl hX hbl hbA hL hi hB hK hcs hW hl kk
      · refine lv_tableIn (off := 583) (tgt := 623) hx hb dL_law_40 (by decide) (by decide) (by decide) (by decide) ?_
        exact lc_kind X Y hN hfl hX hbl hbA hL hi hB hK hcs hW hl kk
      · refine lv_tableIn (off := 651) (tgt := 691) hx hb dL_law_40 (by decide) (by decide) (by decide) (by decide) ?_
        exact lc_since X Y hN hfl hX hbl hbA hL hi hB hK hcs hW hl kk
      · refine lv_tableIn (off := 719) (tgt := 759) hx hb dL_law_40 (by decide) (by decide) (by decide) (by decide) ?_
        exact lc_unlike X Y hN hfl hX hbl hbA hL hi hB hK hcs hW hl kk
      · refine lv_tableIn (off := 733) (tgt := 773) hx hb dL_law_40 (by decide) (by decide) (by decide) (by decide) ?_
        exact lc_rough X Y hN hfl hX hbl hbA hL hi hB hK hcs hW hl kk
      · refine lv_tableIn (off := 746) (tgt := 786) hx hb dL_law_40 (by decide) (by decide) (by decide) (by decide) ?_
        exact lc_waiting X Y hN hfl hX hbl hbA hL hi hB hK hcs hW hl kk
      · refine lv_tableIn (off := 759) (tgt := 799) hx hb dL_law_40 (by decide) (by decide) (by decide) (by decide) ?_
        exact lc_known X Y hN hfl hX hbl hbA hL hi hB hK hcs hW hl kk
      · refine lv_tableIn (off := 815) (tgt := 855) hx hb dL_law_40 (by decide) (by decide) (by decide) (by decide) ?_
        exact lc_knownPictures X Y hN hfl hX hbl hbA hL hi hB hK hcs hW hl kk
      · refine lv_tableIn (off := 828) (tgt := 868) hx hb dL_law_40 (by decide) (by decide) (by decide) (by decide) ?_
        exact lc_sent X Y hN hfl hX hbl hbA hL hi hB hK hcs hW hl kk
      · refine lv_tableIn (off := 884) (tgt := 924) hx hb dL_law_40 (by decide) (by decide) (by decide) (by decide) ?_
        exact lc_used X Y hN hfl hX hbl hbA hL hi hB hK hcs hW hl kk
      · refine lv_tableIn (off := 897) (tgt := 937) hx hb dL_law_40 (by decide) (by decide) (by decide) (by decide) ?_
        exact lc_anew X Y hN hfl hX hbl hbA hL hi hB hK hcs hW hl kk
      · refine lv_tableIn (off := 910) (tgt := 950) hx hb dL_law_40 (by decide) (by decide) (by decide) (by decide) ?_
        exact lc_stepsToGo X Y hN hfl hX hbl hbA hL hi hB hK hcs hW hl kk
      · have e32 : (2 : Nat) ^ 5 = 32 := rfl
        refine lv_tableOut (tgt := 1006) hx hb dL_law_40 (Or.inr (by rw [nI_toInt (by omega)]; omega)) (by decide) ?_
        refine W.widen (k := 60 + 5 * K + 5) (n := 2000 + 30 * K + 30) (by omega) (by omega) ?_
        exact kk v u lf w H locs ls ⟨hB.1, ivm_up hB.2 hK⟩ hW hl
