/-! the law's cases: known, sent, stepsToGo -/
set_option maxHeartbeats 4000000 in
set_option maxRecDepth 100000 in
theorem lc_known {p : Program} {l : Launch} {e : Env} {s : State} {m : MethodId} {args : Array Value} {below : List Frame} {meth : Method} {c : Code} {H : Heap} {locs : List Loc} {cells slots : Nat} {Q : State → Prop} {rt : Option FieldType} {g : GG} {A : Nat → Prop} {ls : Array Slot} {b0 L i K f q : Nat} {xs : Nat → Int32} {a d o : Nat → Nat} {v u : SV} {lf : Nat → Int64} {w : MV} (X : fz_X p s m meth c RL cL_law 7 rt g A) (Y : fz_Y s A) (hN : va_Nc XIA XIO s) (hfl : l.stackTraces = false) (hX : va_X b0 L xs s s.heap) (hbl : b0 < s.heap.size) (hbA : ¬ A b0) (hL : L ≤ 3584) (hi : i + 7 ≤ L) (hB : Both v w K) (hK : K ≤ 1000) (hcs : cells + 5 ≤ 601024 ∧ slots + 30 ≤ 7293034) (hW : fz_W g A s (LW g f a d v u q lf o w) H locs) (hl : lv_has ls 7 (lo5 b0 f (o 0) q i))
    (kk : ∀ (v u : SV) (lf : Nat → Int64) (w : MV) (H : Heap) (locs : List Loc) (ls : Array Slot), Both v w (K + 1) → fz_W g A s (LW g f a d v u q lf o w) H locs → lv_has ls 7 (lo5 b0 f (o 0) q i) → W p l e room_1 s m args below meth c H locs (cells + 5) (slots + 30) Q (F0 m 1006 ls [])) : W p l e room_1 s m args below meth c H locs cells slots Q (F0 m 799 ls []) := by
  have hx := X.1
  have hb := X.2.1
  have hl : lv_has ls 7 [(0, .ref b0), (1, .ref f), (2, .ref (o 0)), (3, .ref q), (4, .int (nI i))] := hl
  have pr := pr_known hB hK (xs (i + 1))
  refine lv_aload_n hx hb dL_law_799 rfl (lv_at hl 1 rfl) ?_
  refine lv_aload_n hx hb dL_law_800 rfl (lv_at hl 0 rfl) ?_
  refine lv_iload hx hb dL_law_801 (lv_at hl 4 rfl) ?_
  refine lv_iconst (v := 1) hx hb dL_law_803 (by decide) ?_
  refine lv_iadd hx hb dL_law_804 ?_
  refine fz_sx X hW hX hbl hbA (i + 1) (nI_add i 1) (by omega) hL dL_law_805 ?_
  refine lv_aload_n hx hb dL_law_806 rfl (lv_at hl 3 rfl) ?_
  rcases hex : exK v.kc (xs (i + 1)) with _ | E
  · skip
    obtain ⟨t1, t2, t3⟩ := pr.1 hex
    refine fz_cH X Y hN hW (fz_CH.lw (h_known l hfl g f a d v u q lf (xs (i + 1)) (both_sok hB).1.2.1 (FW g f a d (v) (u) ++ [LR g q (vp_updL lf 0 (v.kp (xs (i + 1)).toNatClampNeg).toInt64)]) 0 (fun _ => ⟨rfl, rfl⟩) (fun E z => by rw [hex] at z; cases z)) o w) lh_105 rfl ⟨(Nat.le_of_ble_eq_true rfl), (Nat.le_of_ble_eq_true rfl)⟩ hl rfl (Nat.le_of_ble_eq_true rfl) dL_law_807 (ce1 hcs (by omega) (by omega)) (fun H locs hW => ?_)
    generalize hx1 : v.kp (xs (i + 1)).toNatClampNeg = x1 at hW t2
    refine lv_istore (lv' := [(5, .int 0), (0, .ref b0), (1, .ref f), (2, .ref (o 0)), (3, .ref q), (4, .int (nI i))]) hx hb dL_law_810 hl (by decide) rfl (fun ls hl => ?_)
    refine lv_aload_n hx hb dL_law_812 rfl (lv_at hl 3 rfl) ?_
    refine lv_aload_n hx hb dL_law_813 rfl (lv_at hl 1 rfl) ?_
    refine lv_iload hx hb dL_law_814 (lv_at hl 5 rfl) ?_
    refine lv_iconst (v := 1) hx hb dL_law_816 (by decide) ?_
    refine lv_iadd hx hb dL_law_817 ?_
    refine fz_sx X hW hX hbl hbA (i + 1) (nI_add i 1) (by omega) hL dL_law_818 ?_
    refine fz_cVi X hW (fz_C.lwM (c_X4_known l g o w (xs (i + 1)) hB.1.2.2.2.2.2.2.2.2.2.1) f a d v u q (vp_updL lf 0 x1.toInt64)) lk_L_107 (ci := 4) (q0 := 36) rfl rfl rfl rfl ⟨(Nat.le_of_ble_eq_true rfl), (Nat.le_of_ble_eq_true rfl)⟩ hl rfl (Nat.le_of_ble_eq_true rfl) dL_law_819 (ce1 hcs (by omega) (by omega)) (fun H locs hW => ?_)
    generalize hw1 : mkV w (xs (i + 1)) = w1 at hW t1 t3
    generalize hy1 : mkR w (xs (i + 1)) = y1 at t2 ⊢
    refine lv_istore (lv' := [(6, .int y1), (5, .int 0), (0, .ref b0), (1, .ref f), (2, .ref (o 0)), (3, .ref q), (4, .int (nI i))]) hx hb dL_law_822 hl (by decide) rfl (fun ls hl => ?_)
    refine lv_aload_n hx hb dL_law_824 rfl (lv_at hl 4 rfl) ?_
    refine fz_cVi X hW (fz_C.lwM (c_X4_thrown l g o w1) f a d v u q (vp_updL lf 0 x1.toInt64)) lk_L_60 (ci := 4) (q0 := 36) rfl rfl rfl rfl ⟨(Nat.le_of_ble_eq_true rfl), (Nat.le_of_ble_eq_true rfl)⟩ hl rfl (Nat.le_of_ble_eq_true rfl) dL_law_825 (ce1 hcs (by omega) (by omega)) (fun H locs hW => ?_)
    refine lv_iload hx hb dL_law_828 (lv_at hl 1 rfl) ?_
    refine lv_icmp_eq (tgt := 835) hx hb dL_law_830 (by decide) (fun c1 => ?_) (fun c1 => absurd t1 c1)
    refine lv_iload hx hb dL_law_835 (lv_at hl 1 rfl) ?_
    refine lv_if_ne (tgt := 852) hx hb dL_law_837 (by decide) (fun c2 => absurd rfl c2) (fun c2 => ?_)
    refine lv_aload_n hx hb dL_law_840 rfl (lv_at hl 5 rfl) ?_
    refine lv_iconst (v := 0) hx hb dL_law_841 (by decide) ?_
    refine fz_jl X hW 35 0 rfl rfl (by omega) (by decide) dL_law_842 ?_
    refine lv_iload hx hb dL_law_843 (lv_at hl 0 rfl) ?_
    refine lv_i2l hx hb dL_law_845 rfl ?_
    refine W.lcmp hx hb dL_law_846 ?_
    refine lv_if_eq (tgt := 852) hx hb dL_law_847 (by decide) (fun c3 => ?_) (fun c3 => absurd (lg_same (by rw [up_0, t2])) c3)
    refine lv_goto (tgt := 1006) hx hb dL_law_852 (by decide) ?_
    refine W.widen (k := cells + 5) (n := slots + 30) (by omega) (by omega) ?_
    exact kk v u (vp_updL lf 0 x1.toInt64) w1 _ _ _ t3 hW (lv_sub hl [2, 3, 4, 5, 6] rfl)
  · skip
    obtain ⟨t1, t3⟩ := pr.2 E hex
    refine fz_cH X Y hN hW (fz_CH.lw (h_known l hfl g f a d v u q lf (xs (i + 1)) (both_sok hB).1.2.1 (FW g f a d v u ++ [LR g q lf]) (cd1 E) (fun z => by rw [hex] at z; cases z) (fun E2 z => by rw [hex] at z; cases z; exact ⟨rfl, rfl⟩)) o w) lh_105 rfl ⟨(Nat.le_of_ble_eq_true rfl), (Nat.le_of_ble_eq_true rfl)⟩ hl rfl (Nat.le_of_ble_eq_true rfl) dL_law_807 (ce1 hcs (by omega) (by omega)) (fun H locs hW => ?_)
    refine lv_istore (lv' := [(5, .int (cd1 E)), (0, .ref b0), (1, .ref f), (2, .ref (o 0)), (3, .ref q), (4, .int (nI i))]) hx hb dL_law_810 hl (by decide) rfl (fun ls hl => ?_)
    refine lv_aload_n hx hb dL_law_812 rfl (lv_at hl 3 rfl) ?_
    refine lv_aload_n hx hb dL_law_813 rfl (lv_at hl 1 rfl) ?_
    refine lv_iload hx hb dL_law_814 (lv_at hl 5 rfl) ?_
    refine lv_iconst (v := 1) hx hb dL_law_816 (by decide) ?_
    refine lv_iadd hx hb dL_law_817 ?_
    refine fz_sx X hW hX hbl hbA (i + 1) (nI_add i 1) (by omega) hL dL_law_818 ?_
    refine fz_cVi X hW (fz_C.lwM (c_X4_known l g o w (xs (i + 1)) hB.1.2.2.2.2.2.2.2.2.2.1) f a d v u q lf) lk_L_107 (ci := 4) (q0 := 36) rfl rfl rfl rfl ⟨(Nat.le_of_ble_eq_true rfl), (Nat.le_of_ble_eq_true rfl)⟩ hl rfl (Nat.le_of_ble_eq_true rfl) dL_law_819 (ce1 hcs (by omega) (by omega)) (fun H locs hW => ?_)
    generalize hw1 : mkV w (xs (i + 1)) = w1 at hW t1 t3
    generalize hy1 : mkR w (xs (i + 1)) = y1
    refine lv_istore (lv' := [(6, .int y1), (5, .int (cd1 E)), (0, .ref b0), (1, .ref f), (2, .ref (o 0)), (3, .ref q), (4, .int (nI i))]) hx hb dL_law_822 hl (by decide) rfl (fun ls hl => ?_)
    refine lv_aload_n hx hb dL_law_824 rfl (lv_at hl 4 rfl) ?_
    refine fz_cVi X hW (fz_C.lwM (c_X4_thrown l g o w1) f a d v u q lf) lk_L_60 (ci := 4) (q0 := 36) rfl rfl rfl rfl ⟨(Nat.le_of_ble_eq_true rfl), (Nat.le_of_ble_eq_true rfl)⟩ hl rfl (Nat.le_of_ble_eq_true rfl) dL_law_825 (ce1 hcs (by omega) (by omega)) (fun H locs hW => ?_)
    refine lv_iload hx hb dL_law_828 (lv_at hl 1 rfl) ?_
    refine lv_icmp_eq (tgt := 835) hx hb dL_law_830 (by decide) (fun c1 => ?_) (fun c1 => absurd t1 c1)
    refine lv_iload hx hb dL_law_835 (lv_at hl 1 rfl) ?_
    refine lv_if_ne (tgt := 852) hx hb dL_law_837 (by decide) (fun c2 => ?_) (fun c2 => absurd c2 (cd1_0 E))
    refine lv_goto (tgt := 1006) hx hb dL_law_852 (by decide) ?_
    refine W.widen (k := cells + 5) (n := slots + 30) (by omega) (by omega) ?_
    exact kk v u lf w1 _ _ _ t3 hW (lv_sub hl [2, 3, 4, 5, 6] rfl)
set_option maxHeartbeats 4000000 in
set_option maxRecDepth 100000 in
theorem lc_sent {p : Program} {l : Launch} {e : Env} {s : State} {m : MethodId} {args : Array Value} {below : List Frame} {meth : Method} {c : Code} {H : Heap} {locs : List Loc} {cells slots : Nat} {Q : State → Prop} {rt : Option FieldType} {g : GG} {A : Nat → Prop} {ls : Array Slot} {b0 L i K f q : Nat} {xs : Nat → Int32} {a d o : Nat → Nat} {v u : SV} {lf : Nat → Int64} {w : MV} (X : fz_X p s m meth c RL cL_law 7 rt g A) (Y : fz_Y s A) (hN : va_Nc XIA XIO s) (hfl : l.stackTraces = false) (hX : va_X b0 L xs s s.heap) (hbl : b0 < s.heap.size) (hbA : ¬ A b0) (hL : L ≤ 3584) (hi : i + 7 ≤ L) (hB : Both v w K) (hK : K ≤ 1000) (hcs : cells + 5 ≤ 601024 ∧ slots + 30 ≤ 7293034) (hW : fz_W g A s (LW g f a d v u q lf o w) H locs) (hl : lv_has ls 7 (lo5 b0 f (o 0) q i))
    (kk : ∀ (v u : SV) (lf : Nat → Int64) (w : MV) (H : Heap) (locs : List Loc) (ls : Array Slot), Both v w (K + 1) → fz_W g A s (LW g f a d v u q lf o w) H locs → lv_has ls 7 (lo5 b0 f (o 0) q i) → W p l e room_1 s m args below meth c H locs (cells + 5) (slots + 30) Q (F0 m 1006 ls [])) : W p l e room_1 s m args below meth c H locs cells slots Q (F0 m 868 ls []) := by
  have hx := X.1
  have hb := X.2.1
  have hl : lv_has ls 7 [(0, .ref b0), (1, .ref f), (2, .ref (o 0)), (3, .ref q), (4, .int (nI i))] := hl
  have pr := pr_sent hB hK (xs (i + 1))
  refine lv_aload_n hx hb dL_law_868 rfl (lv_at hl 1 rfl) ?_
  refine lv_aload_n hx hb dL_law_869 rfl (lv_at hl 0 rfl) ?_
  refine lv_iload hx hb dL_law_870 (lv_at hl 4 rfl) ?_
  refine lv_iconst (v := 1) hx hb dL_law_872 (by decide) ?_
  refine lv_iadd hx hb dL_law_873 ?_
  refine fz_sx X hW hX hbl hbA (i + 1) (nI_add i 1) (by omega) hL dL_law_874 ?_
  refine lv_aload_n hx hb dL_law_875 rfl (lv_at hl 3 rfl) ?_
  rcases hex : exS (xs (i + 1)) with _ | E
  · skip
    obtain ⟨t1, t2, t3⟩ := pr.1 hex
    refine fz_cH X Y hN hW (fz_CH.lw (h_sent l hfl g f a d v u q lf (xs (i + 1)) (FW g f a d (v) (u) ++ [LR g q (vp_updL lf 0 (v.sc (xs (i + 1)).toNatClampNeg).toInt64)]) 0 (fun _ => ⟨rfl, rfl⟩) (fun E z => by rw [hex] at z; cases z)) o w) lh_112 rfl ⟨(Nat.le_of_ble_eq_true rfl), (Nat.le_of_ble_eq_true rfl)⟩ hl rfl (Nat.le_of_ble_eq_true rfl) dL_law_876 (ce1 hcs (by omega) (by omega)) (fun H locs hW => ?_)
    generalize hx1 : v.sc (xs (i + 1)).toNatClampNeg = x1 at hW t2
    refine lv_istore (lv' := [(5, .int 0), (0, .ref b0), (1, .ref f), (2, .ref (o 0)), (3, .ref q), (4, .int (nI i))]) hx hb dL_law_879 hl (by decide) rfl (fun ls hl => ?_)
    refine lv_aload_n hx hb dL_law_881 rfl (lv_at hl 3 rfl) ?_
    refine lv_aload_n hx hb dL_law_882 rfl (lv_at hl 1 rfl) ?_
    refine lv_iload hx hb dL_law_883 (lv_at hl 5 rfl) ?_
    refine lv_iconst (v := 1) hx hb dL_law_885 (by decide) ?_
    refine lv_iadd hx hb dL_law_886 ?_
    refine fz_sx X hW hX hbl hbA (i + 1) (nI_add i 1) (by omega) hL dL_law_887 ?_
    refine fz_cVi X hW (fz_C.lwM (c_X4_sent l g o w (xs (i + 1))) f a d v u q (vp_updL lf 0 x1.toInt64)) lk_L_114 (ci := 4) (q0 := 36) rfl rfl rfl rfl ⟨(Nat.le_of_ble_eq_true rfl), (Nat.le_of_ble_eq_true rfl)⟩ hl rfl (Nat.le_of_ble_eq_true rfl) dL_law_888 (ce1 hcs (by omega) (by omega)) (fun H locs hW => ?_)
    generalize hw1 : mqV w (xs (i + 1)) = w1 at hW t1 t3
    generalize hy1 : mqR w (xs (i + 1)) = y1 at t2 ⊢
    refine lv_istore (lv' := [(6, .int y1), (5, .int 0), (0, .ref b0), (1, .ref f), (2, .ref (o 0)), (3, .ref q), (4, .int (nI i))]) hx hb dL_law_891 hl (by decide) rfl (fun ls hl => ?_)
    refine lv_aload_n hx hb dL_law_893 rfl (lv_at hl 4 rfl) ?_
    refine fz_cVi X hW (fz_C.lwM (c_X4_thrown l g o w1) f a d v u q (vp_updL lf 0 x1.toInt64)) lk_L_60 (ci := 4) (q0 := 36) rfl rfl rfl rfl ⟨(Nat.le_of_ble_eq_true rfl), (Nat.le_of_ble_eq_true rfl)⟩ hl rfl (Nat.le_of_ble_eq_true rfl) dL_law_894 (ce1 hcs (by omega) (by omega)) (fun H locs hW => ?_)
    refine lv_iload hx hb dL_law_897 (lv_at hl 1 rfl) ?_
    refine lv_icmp_eq (tgt := 904) hx hb dL_law_899 (by decide) (fun c1 => ?_) (fun c1 => absurd t1 c1)
    refine lv_iload hx hb dL_law_904 (lv_at hl 1 rfl) ?_
    refine lv_if_ne (tgt := 921) hx hb dL_law_906 (by decide) (fun c2 => absurd rfl c2) (fun c2 => ?_)
    refine lv_aload_n hx hb dL_law_909 rfl (lv_at hl 5 rfl) ?_
    refine lv_iconst (v := 0) hx hb dL_law_910 (by decide) ?_
    refine fz_jl X hW 35 0 rfl rfl (by omega) (by decide) dL_law_911 ?_
    refine lv_iload hx hb dL_law_912 (lv_at hl 0 rfl) ?_
    refine lv_i2l hx hb dL_law_914 rfl ?_
    refine W.lcmp hx hb dL_law_915 ?_
    refine lv_if_eq (tgt := 921) hx hb dL_law_916 (by decide) (fun c3 => ?_) (fun c3 => absurd (lg_same (by rw [up_0, t2])) c3)
    refine lv_goto (tgt := 1006) hx hb dL_law_921 (by decide) ?_
    refine W.widen (k := cells + 5) (n := slots + 30) (by omega) (by omega) ?_
    exact kk v u (vp_updL lf 0 x1.toInt64) w1 _ _ _ t3 hW (lv_sub hl [2, 3, 4, 5, 6] rfl)
  · skip
    obtain ⟨t1, t3⟩ := pr.2 E hex
    refine fz_cH X Y hN hW (fz_CH.lw (h_sent l hfl g f a d v u q lf (xs (i + 1)) (FW g f a d v u ++ [LR g q lf]) (cd1 E) (fun z => by rw [hex] at z; cases z) (fun E2 z => by rw [hex] at z; cases z; exact ⟨rfl, rfl⟩)) o w) lh_112 rfl ⟨(Nat.le_of_ble_eq_true rfl), (Nat.le_of_ble_eq_true rfl)⟩ hl rfl (Nat.le_of_ble_eq_true rfl) dL_law_876 (ce1 hcs (by omega) (by omega)) (fun H locs hW => ?_)
    refine lv_istore (lv' := [(5, .int (cd1 E)), (0, .ref b0), (1, .ref f), (2, .ref (o 0)), (3, .ref q), (4, .int (nI i))]) hx hb dL_law_879 hl (by decide) rfl (fun ls hl => ?_)
    refine lv_aload_n hx hb dL_law_881 rfl (lv_at hl 3 rfl) ?_
    refine lv_aload_n hx hb dL_law_882 rfl (lv_at hl 1 rfl) ?_
    refine lv_iload hx hb dL_law_883 (lv_at hl 5 rfl) ?_
    refine lv_iconst (v := 1) hx hb dL_law_885 (by decide) ?_
    refine lv_iadd hx hb dL_law_886 ?_
    refine fz_sx X hW hX hbl hbA (i + 1) (nI_add i 1) (by omega) hL dL_law_887 ?_
    refine fz_cVi X hW (fz_C.lwM (c_X4_sent l g o w (xs (i + 1))) f a d v u q lf) lk_L_114 (ci := 4) (q0 := 36) rfl rfl rfl rfl ⟨(Nat.le_of_ble_eq_true rfl), (Nat.le_of_ble_eq_true rfl)⟩ hl rfl (Nat.le_of_ble_eq_true rfl) dL_law_888 (ce1 hcs (by omega) (by omega)) (fun H locs hW => ?_)
    generalize hw1 : mqV w (xs (i + 1)) = w1 at hW t1 t3
    generalize hy1 : mqR w (xs (i + 1)) = y1
    refine lv_istore (lv' := [(6, .int y1), (5, .int (cd1 E)), (0, .ref b0), (1, .ref f), (2, .ref (o 0)), (3, .ref q), (4, .int (nI i))]) hx hb dL_law_891 hl (by decide) rfl (fun ls hl => ?_)
    refine lv_aload_n hx hb dL_law_893 rfl (lv_at hl 4 rfl) ?_
    refine fz_cVi X hW (fz_C.lwM (c_X4_thrown l g o w1) f a d v u q lf) lk_L_60 (ci := 4) (q0 := 36) rfl rfl rfl rfl ⟨(Nat.le_of_ble_eq_true rfl), (Nat.le_of_ble_eq_true rfl)⟩ hl rfl (Nat.le_of_ble_eq_true rfl) dL_law_894 (ce1 hcs (by omega) (by omega)) (fun H locs hW => ?_)
    refine lv_iload hx hb dL_law_897 (lv_at hl 1 rfl) ?_
    refine lv_icmp_eq (tgt := 904) hx hb dL_law_899 (by decide) (fun c1 => ?_) (fun c1 => absurd t1 c1)
    refine lv_iload hx hb dL_law_904 (lv_at hl 1 rfl) ?_
    refine lv_if_ne (tgt := 921) hx hb dL_law_906 (by decide) (fun c2 => ?_) (fun c2 => absurd c2 (cd1_0 E))
    refine lv_goto (tgt := 1006) hx hb dL_law_921 (by decide) ?_
    refine W.widen (k := cells + 5) (n := slots + 30) (by omega) (by omega) ?_
    exact kk v u lf w1 _ _ _ t3 hW (lv_sub hl [2, 3, 4, 5, 6] rfl)
set_option maxHeartbeats 4000000 in
set_option maxRecDepth 100000 in
theorem lc_stepsToGo {p : Program} {l : Launch} {e : Env} {s : State} {m : MethodId} {args : Array Value} {below : List Frame} {meth : Method} {c : Code} {H : Heap} {locs : List Loc} {cells slots : Nat} {Q : State → Prop} {rt : Option FieldType} {g : GG} {A : Nat → Prop} {ls : Array Slot} {b0 L i K f q : Nat} {xs : Nat → Int32} {a d o : Nat → Nat} {v u : SV} {lf : Nat → Int64} {w : MV} (X : fz_X p s m meth c RL cL_law 7 rt g A) (Y : fz_Y s A) (hN : va_Nc XIA XIO s) (hfl : l.stackTraces = false) (hX : va_X b0 L xs s s.heap) (hbl : b0 < s.heap.size) (hbA : ¬ A b0) (hL : L ≤ 3584) (hi : i + 7 ≤ L) (hB : Both v w K) (hK : K ≤ 1000) (hcs : cells + 5 ≤ 601024 ∧ slots + 30 ≤ 7293034) (hW : fz_W g A s (LW g f a d v u q lf o w) H locs) (hl : lv_has ls 7 (lo5 b0 f (o 0) q i))
    (kk : ∀ (v u : SV) (lf : Nat → Int64) (w : MV) (H : Heap) (locs : List Loc) (ls : Array Slot), Both v w (K + 1) → fz_W g A s (LW g f a d v u q lf o w) H locs → lv_has ls 7 (lo5 b0 f (o 0) q i) → W p l e room_1 s m args below meth c H locs (cells + 5) (slots + 30) Q (F0 m 1006 ls [])) : W p l e room_1 s m args below meth c H locs cells slots Q (F0 m 950 ls []) := by
  have hx := X.1
  have hb := X.2.1
  have hl : lv_has ls 7 [(0, .ref b0), (1, .ref f), (2, .ref (o 0)), (3, .ref q), (4, .int (nI i))] := hl
  have pr := pr_stg u hB hK (xs (i + 1))
  refine lv_aload_n hx hb dL_law_950 rfl (lv_at hl 1 rfl) ?_
  refine lv_aload_n hx hb dL_law_951 rfl (lv_at hl 0 rfl) ?_
  refine lv_iload hx hb dL_law_952 (lv_at hl 4 rfl) ?_
  refine lv_iconst (v := 1) hx hb dL_law_954 (by decide) ?_
  refine lv_iadd hx hb dL_law_955 ?_
  refine fz_sx X hW hX hbl hbA (i + 1) (nI_add i 1) (by omega) hL dL_law_956 ?_
  refine lv_aload_n hx hb dL_law_957 rfl (lv_at hl 3 rfl) ?_
  rcases hex : exG (xs (i + 1)) with _ | E
  · skip
    obtain ⟨t1, t2, t3⟩ := pr.1 hex
    refine fz_cH X Y hN hW (fz_CH.lw (h_stepsToGo l hfl g f a d v u q lf (xs (i + 1)) (both_sok hB).1 (FW g f a d (v) ((stgF (xs (i + 1)) (coV u v) 0 100).2) ++ [LR g q (vp_updL lf 0 ((stgF (xs (i + 1)) (coV u v) 0 100).1).toInt64)]) 0 (fun _ => ⟨rfl, rfl⟩) (fun E z => by rw [hex] at z; cases z)) o w) lh_123 rfl ⟨(Nat.le_of_ble_eq_true rfl), (Nat.le_of_ble_eq_true rfl)⟩ hl rfl (Nat.le_of_ble_eq_true rfl) dL_law_958 (ce1 hcs (by omega) (by omega)) (fun H locs hW => ?_)
    generalize hu1 : (stgF (xs (i + 1)) (coV u v) 0 100).2 = u1 at hW
    generalize hx1 : (stgF (xs (i + 1)) (coV u v) 0 100).1 = x1 at hW t2
    refine lv_istore (lv' := [(5, .int 0), (0, .ref b0), (1, .ref f), (2, .ref (o 0)), (3, .ref q), (4, .int (nI i))]) hx hb dL_law_961 hl (by decide) rfl (fun ls hl => ?_)
    refine lv_aload_n hx hb dL_law_963 rfl (lv_at hl 3 rfl) ?_
    refine lv_aload_n hx hb dL_law_964 rfl (lv_at hl 1 rfl) ?_
    refine lv_iload hx hb dL_law_965 (lv_at hl 5 rfl) ?_
    refine lv_iconst (v := 1) hx hb dL_law_967 (by decide) ?_
    refine lv_iadd hx hb dL_law_968 ?_
    refine fz_sx X hW hX hbl hbA (i + 1) (nI_add i 1) (by omega) hL dL_law_969 ?_
    refine fz_cVi X hW (fz_C.lwM (c_X4_stepsToGo l g o w (xs (i + 1)) (both_sok hB).2) f a d v u1 q (vp_updL lf 0 x1.toInt64)) lk_L_125 (ci := 4) (q0 := 36) rfl rfl rfl rfl ⟨(Nat.le_of_ble_eq_true rfl), (Nat.le_of_ble_eq_true rfl)⟩ hl rfl (Nat.le_of_ble_eq_true rfl) dL_law_970 (ce1 hcs (by omega) (by omega)) (fun H locs hW => ?_)
    generalize hw1 : (mgR w (xs (i + 1))).2 = w1 at hW t1 t3
    generalize hy1 : (mgR w (xs (i + 1))).1 = y1 at t2 ⊢
    refine lv_istore (lv' := [(6, .int y1), (5, .int 0), (0, .ref b0), (1, .ref f), (2, .ref (o 0)), (3, .ref q), (4, .int (nI i))]) hx hb dL_law_973 hl (by decide) rfl (fun ls hl => ?_)
    refine lv_aload_n hx hb dL_law_975 rfl (lv_at hl 4 rfl) ?_
    refine fz_cVi X hW (fz_C.lwM (c_X4_thrown l g o w1) f a d v u1 q (vp_updL lf 0 x1.toInt64)) lk_L_60 (ci := 4) (q0 := 36) rfl rfl rfl rfl ⟨(Nat.le_of_ble_eq_true rfl), (Nat.le_of_ble_eq_true rfl)⟩ hl rfl (Nat.le_of_ble_eq_true rfl) dL_law_976 (ce1 hcs (by omega) (by omega)) (fun H locs hW => ?_)
    refine lv_iload hx hb dL_law_979 (lv_at hl 1 rfl) ?_
    refine lv_icmp_eq (tgt := 986) hx hb dL_law_981 (by decide) (fun c1 => ?_) (fun c1 => absurd t1 c1)
    refine lv_iload hx hb dL_law_986 (lv_at hl 1 rfl) ?_
    refine lv_if_ne (tgt := 1003) hx hb dL_law_988 (by decide) (fun c2 => absurd rfl c2) (fun c2 => ?_)
    refine lv_aload_n hx hb dL_law_991 rfl (lv_at hl 5 rfl) ?_
    refine lv_iconst (v := 0) hx hb dL_law_992 (by decide) ?_
    refine fz_jl X hW 35 0 rfl rfl (by omega) (by decide) dL_law_993 ?_
    refine lv_iload hx hb dL_law_994 (lv_at hl 0 rfl) ?_
    refine lv_i2l hx hb dL_law_996 rfl ?_
    refine W.lcmp hx hb dL_law_997 ?_
    refine lv_if_eq (tgt := 1003) hx hb dL_law_998 (by decide) (fun c3 => ?_) (fun c3 => absurd (lg_same (by rw [up_0, t2])) c3)
    refine lv_goto (tgt := 1006) hx hb dL_law_1003 (by decide) ?_
    refine W.widen (k := cells + 5) (n := slots + 30) (by omega) (by omega) ?_
    exact kk v u1 (vp_updL lf 0 x1.toInt64) w1 _ _ _ t3 hW (lv_sub hl [2, 3, 4, 5, 6] rfl)
  · skip
    obtain ⟨t1, t3⟩ := pr.2 E hex
    refine fz_cH X Y hN hW (fz_CH.lw (h_stepsToGo l hfl g f a d v u q lf (xs (i + 1)) (both_sok hB).1 (FW g f a d v u ++ [LR g q lf]) (cd1 E) (fun z => by rw [hex] at z; cases z) (fun E2 z => by rw [hex] at z; cases z; exact ⟨rfl, rfl⟩)) o w) lh_123 rfl ⟨(Nat.le_of_ble_eq_true rfl), (Nat.le_of_ble_eq_true rfl)⟩ hl rfl (Nat.le_of_ble_eq_true rfl) dL_law_958 (ce1 hcs (by omega) (by omega)) (fun H locs hW => ?_)
    refine lv_istore (lv' := [(5, .int (cd1 E)), (0, .ref b0), (1, .ref f), (2, .ref (o 0)), (3, .ref q), (4, .int (nI i))]) hx hb dL_law_961 hl (by decide) rfl (fun ls hl => ?_)
    refine lv_aload_n hx hb dL_law_963 rfl (lv_at hl 3 rfl) ?_
    refine lv_aload_n hx hb dL_law_964 rfl (lv_at hl 1 rfl) ?_
    refine lv_iload hx hb dL_law_965 (lv_at hl 5 rfl) ?_
    refine lv_iconst (v := 1) hx hb dL_law_967 (by decide) ?_
    refine lv_iadd hx hb dL_law_968 ?_
    refine fz_sx X hW hX hbl hbA (i + 1) (nI_add i 1) (by omega) hL dL_law_969 ?_
    refine fz_cVi X hW (fz_C.lwM (c_X4_stepsToGo l g o w (xs (i + 1)) (both_sok hB).2) f a d v u q lf) lk_L_125 (ci := 4) (q0 := 36) rfl rfl rfl rfl ⟨(Nat.le_of_ble_eq_true rfl), (Nat.le_of_ble_eq_true rfl)⟩ hl rfl (Nat.le_of_ble_eq_true rfl) dL_law_970 (ce1 hcs (by omega) (by omega)) (fun H locs hW => ?_)
    generalize hw1 : (mgR w (xs (i + 1))).2 = w1 at hW t1 t3
    generalize hy1 : (mgR w (xs (i + 1))).1 = y1
    refine lv_istore (lv' := [(6, .int y1), (5, .int (cd1 E)), (0, .ref b0), (1, .ref f), (2, .ref (o 0)), (3, .ref q), (4, .int (nI i))]) hx hb dL_law_973 hl (by decide) rfl (fun ls hl => ?_)
    refine lv_aload_n hx hb dL_law_975 rfl (lv_at hl 4 rfl) ?_
    refine fz_cVi X hW (fz_C.lwM (c_X4_thrown l g o w1) f a d v u q lf) lk_L_60 (ci := 4) (q0 := 36) rfl rfl rfl rfl ⟨(Nat.le_of_ble_eq_true rfl), (Nat.le_of_ble_eq_true rfl)⟩ hl rfl (Nat.le_of_ble_eq_true rfl) dL_law_976 (ce1 hcs (by omega) (by omega)) (fun H locs hW => ?_)
    refine lv_iload hx hb dL_law_979 (lv_at hl 1 rfl) ?_
    refine lv_icmp_eq (tgt := 986) hx hb dL_law_981 (by decide) (fun c1 => ?_) (fun c1 => absurd t1 c1)
    refine lv_iload hx hb dL_law_986 (lv_at hl 1 rfl) ?_
    refine lv_if_ne (tgt := 1003) hx hb dL_law_988 (by decide) (fun c2 => ?_) (fun c2 => absurd c2 (cd1_0 E))
    refine lv_goto (tgt := 1006) hx hb dL_law_1003 (by decide) ?_
    refine W.widen (k := cells + 5) (n := slots + 30) (by omega) (by omega) ?_
    exact kk v u lf w1 _ _ _ t3 hW (lv_sub hl [2, 3, 4, 5, 6] rfl)
