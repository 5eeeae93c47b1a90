theorem psA_us (v : SV) (b : Int32) : (psA v b).2.us = v.us := by
  have tk : ∀ (k : Nat) (u : SV) (told : Nat), (tlF b u told k).2.us = u.us := by
    intro k
    induction k with
    | zero => intro u told; rfl
    | succ k ih =>
      intro u told
      show (if b - nI told * 2 < 2 then (told, u) else tlF b (nuV (afV u told)) (told + 1) k).2.us = _
      split
      · rfl
      · exact ih (nuV (afV u told)) (told + 1)
  have st : ∀ (u : SV) (t : Nat) (c : Int32), (stR u t c).2.us = u.us := by
    intro u t c
    have sp : ∀ w k, (spR u t w k c).2.us = u.us := by
      intro w k
      unfold spR
      split <;> rfl
    have sr : (srR u t c).2.us = u.us := by
      unfold srR
      split
      · rfl
      · split <;> rfl
    unfold stR
    split
    · split
      · exact sr
      · exact sp _ _
    · exact sp _ _
  have sk : ∀ (u : SV) (c : Int32) (p : Nat), (saF u c p).2.us = u.us := by
    intro u c p
    induction p with
    | zero => rfl
    | succ p ih => exact (st _ _ _).trans ih
  have tl : (tlR v b).2.us = v.us := tk v.wm v 0
  by_cases z : (tlR v b).2.wm = 0
  · rw [ps_1 z]
    show (saF (piV (tlR v b).2 48) _ _).2.us = _
    rw [sk]
    exact tl
  · rw [ps_0 z]; exact tl
theorem rel_us {v : SV} {b : Int32} {x1 : LV} (hr : Rel (psV v b) v.us x1) : Rel (psV v b) (psV v b).us (x1.ggS (upd x1.gg 3 (x1.gg 3 + (psA v b).1))) := by
  obtain ⟨r1, r2, r3, r4, r5, r6, r7, r8, r9, r10, r11, r12⟩ := hr
  have eg : ∀ j, ¬ j = 3 → (x1.ggS (upd x1.gg 3 (x1.gg 3 + (psA v b).1))).gg j = x1.gg j := fun j hj => pk_un hj
  have e3 : (x1.ggS (upd x1.gg 3 (x1.gg 3 + (psA v b).1))).gg 3 = x1.gg 3 + (psA v b).1 := by
    show upd x1.gg 3 (x1.gg 3 + (psA v b).1) 3 = _
    exact pk_us
  refine ⟨r1, r2, r3, r4, r5, r6, r7, (eg 0 (by omega)).trans r8, (eg 1 (by omega)).trans r9, (eg 2 (by omega)).trans r10, ?_, fun k hk => (eg (4 + k) (by omega)).trans (r12 k hk)⟩
  rw [e3, r11]
  show v.us + (psA v b).1 = (psA v b).2.us + (psA v b).1
  rw [psA_us]
set_option maxHeartbeats 4000000 in
set_option maxRecDepth 100000 in
theorem la_look {p : Program} {l : Launch} {e : Env} {s : State} {m : MethodId} {args : Array Value} {below : List Frame} {meth : Method} {c : Code} {H : Heap} {locs : List Loc} {cells slots : Nat} {Q : State → Prop} {rt : Option FieldType} {g : GG} {A : Nat → Prop} {ls : Array Slot} {b0 L K f : Nat} {xs : Nat → Int32} {a b r : Nat → Nat} {v u : SV} {x : LV} {T kd lf tp wd hg : Nat} {xv yv : Int32} (X : fz_X p s m meth c RL cL_law 20 rt g A) (hcs : cells + 20 ≤ 600074 ∧ slots + 500 ≤ 7301550) (hB : Bo v x T) (hT : T + 1 < 2 ^ 20) (hlf : lf < 8) (htp : tp < 6) (hwd : 1 ≤ wd) (hhg : 1 ≤ hg) (h8 : lf + wd ≤ 8) (h6 : tp + hg ≤ 6) (hW : fz_W g A s (LW g f a b v u r x) H locs) (hl : lv_has ls 20 (loP b0 f r K xv yv kd lf tp wd hg)) (kk : ∀ (v : SV) (x : LV) (H : Heap) (locs : List Loc) (ls : Array Slot), Bo v x (T + 1) → fz_W g A s (LW g f a b v u r x) H locs → lv_has ls 20 (loB b0 f r K) → W p l e room_1 s m args below meth c H locs (cells + 6) (slots + 60) Q (F0 m 754 ls [])) : W p l e room_1 s m args below meth c H locs cells slots Q (F0 m 648 ls []) := by
  have hx := X.1
  have hb := X.2.1
  have hl : lv_has ls 20 [(0, .ref b0), (1, .ref f), (2, .ref (r 0)), (3, .ref (r 1)), (4, .ref (r 2)), (5, .ref (r 3)), (6, .ref (r 4)), (7, .ref (r 5)), (8, .ref (r 6)), (9, .int (nI K)), (10, .int xv), (11, .int yv), (12, .int (nI kd)), (13, .int (nI lf)), (14, .int (nI tp)), (15, .int (nI wd)), (16, .int (nI hg))] := hl
  have hW : fz_W g A s (LW g f a b v u r x) H locs := hW
  refine lv_aload hx hb dL_law_648 (lv_at hl 8 rfl) ?_
  refine lv_iconst (v := 1) hx hb dL_law_650 (by decide) ?_
  refine fz_il X hW 41 (1) rfl rfl (by omega) (by decide) dL_law_651 ?_
  refine lv_istore (lv' := [(17, .int (x.gg 1)), (0, .ref b0), (1, .ref f), (2, .ref (r 0)), (3, .ref (r 1)), (4, .ref (r 2)), (5, .ref (r 3)), (6, .ref (r 4)), (7, .ref (r 5)), (8, .ref (r 6)), (9, .int (nI K)), (10, .int xv), (11, .int yv), (12, .int (nI kd)), (13, .int (nI lf)), (14, .int (nI tp)), (15, .int (nI wd)), (16, .int (nI hg))]) hx hb dL_law_652 hl (by decide) rfl (fun ls hl => ?_)
  refine lv_aload hx hb dL_law_654 (lv_at hl 9 rfl) ?_
  refine lv_iconst (v := 1) hx hb dL_law_656 (by decide) ?_
  refine lv_bipush (v := 8) hx hb dL_law_657 (by decide) ?_
  refine lv_iload hx hb dL_law_659 (lv_at hl 15 rfl) ?_
  refine lv_imul hx hb dL_law_661 ?_
  refine lv_iload hx hb dL_law_662 (lv_at hl 14 rfl) ?_
  refine lv_iadd hx hb dL_law_664 ?_
  refine fz_top (x' := nI (8 * tp + lf)) (fz_tl lf tp) ?_
  refine fz_is X hW 41 (1) rfl rfl (by omega) (by decide) dL_law_665 (fun H locs hW => ?_)
  have hW : fz_W g A s (LW g f a b v u r (x.ggS (upd x.gg 1 (nI (8 * tp + lf))))) H locs := hW
  refine lv_aload_n hx hb dL_law_666 rfl (lv_at hl 2 rfl) ?_
  refine lv_iload hx hb dL_law_667 (lv_at hl 14 rfl) ?_
  refine lv_iload hx hb dL_law_669 (lv_at hl 15 rfl) ?_
  refine fz_cVi X hW (fz_C.lf (k_X3_look l g f a b v u (nI lf) (nI tp) (okT_n hlf htp).1) r (x.ggS (upd x.gg 1 (nI (8 * tp + lf))))) lk_L_100 (ci := 3) (q0 := 0) rfl rfl rfl rfl ⟨Nat.le_of_ble_eq_true rfl, Nat.le_of_ble_eq_true rfl⟩ hl rfl (Nat.le_of_ble_eq_true rfl) dL_law_671 (ce0 hcs) (fun H locs hW => ?_)
  have hW : fz_W g A s (LW g f a b (v.laS (8 * tp + lf)) u r (x.ggS (upd x.gg 1 (nI (8 * tp + lf))))) H locs := fz_cast (by rw [(okT_n hlf htp).2]) hW
  refine lv_iload hx hb dL_law_674 (lv_at hl 0 rfl) ?_
  refine lv_icmp_eq (tgt := 681) hx hb dL_law_676 (by decide) (fun c676 => ?_) (fun c676 => ?_)
  · skip
    refine lv_goto (tgt := 754) hx hb dL_law_681 (by decide) ?_
    refine W.widen (k := cells + 6) (n := slots + 60) (by omega) (by omega) ?_
    exact kk (v.laS (8 * tp + lf)) (x.ggS (upd x.gg 1 (nI (8 * tp + lf)))) _ _ _ (⟨rel_look hB.1 _, inv_up (inv_look hB.2 (by omega)) (Nat.le_succ T) hT⟩) hW (lv_sub hl [1, 2, 3, 4, 5, 6, 7, 8, 9, 10] rfl)
  · exact absurd hB.1.2.2.2.2.2.2.2.2.1.symm c676
set_option maxHeartbeats 4000000 in
set_option maxRecDepth 100000 in
theorem la_step {p : Program} {l : Launch} {e : Env} {s : State} {m : MethodId} {args : Array Value} {below : List Frame} {meth : Method} {c : Code} {H : Heap} {locs : List Loc} {cells slots : Nat} {Q : State → Prop} {rt : Option FieldType} {g : GG} {A : Nat → Prop} {ls : Array Slot} {b0 L K f : Nat} {xs : Nat → Int32} {a b r : Nat → Nat} {v u : SV} {x : LV} {T kd lf tp wd hg : Nat} {xv yv : Int32} (X : fz_X p s m meth c RL cL_law 20 rt g A) (hcs : cells + 20 ≤ 600074 ∧ slots + 500 ≤ 7301550) (hB : Bo v x T) (hT : T + 1 < 2 ^ 20) (hlf : lf < 8) (htp : tp < 6) (hwd : 1 ≤ wd) (hhg : 1 ≤ hg) (h8 : lf + wd ≤ 8) (h6 : tp + hg ≤ 6) (hW : fz_W g A s (LW g f a b v u r x) H locs) (hl : lv_has ls 20 (loP b0 f r K xv yv kd lf tp wd hg)) (kk : ∀ (v : SV) (x : LV) (H : Heap) (locs : List Loc) (ls : Array Slot), Bo v x (T + 1) → fz_W g A s (LW g f a b v u r x) H locs → lv_has ls 20 (loB b0 f r K) → W p l e room_1 s m args below meth c H locs (cells + 6) (slots + 60) Q (F0 m 754 ls [])) : W p l e room_1 s m args below meth c H locs cells slots Q (F0 m 684 ls []) := by
  have hx := X.1
  have hb := X.2.1
  have hl : lv_has ls 20 [(0, .ref b0), (1, .ref f), (2, .ref (r 0)), (3, .ref (r 1)), (4, .ref (r 2)), (5, .ref (r 3)), (6, .ref (r 4)), (7, .ref (r 5)), (8, .ref (r 6)), (9, .int (nI K)), (10, .int xv), (11, .int yv), (12, .int (nI kd)), (13, .int (nI lf)), (14, .int (nI tp)), (15, .int (nI wd)), (16, .int (nI hg))] := hl
  have hW : fz_W g A s (LW g f a b v u r x) H locs := hW
  refine lv_iload hx hb dL_law_684 (lv_at hl 10 rfl) ?_
  refine lv_iconst (v := 5) hx hb dL_law_686 (by decide) ?_
  refine lv_ishr hx hb dL_law_687 ?_
  refine lv_iload hx hb dL_law_688 (lv_at hl 10 rfl) ?_
  refine lv_bipush (v := 13) hx hb dL_law_690 (by decide) ?_
  refine lv_ishr hx hb dL_law_692 ?_
  refine lv_iconst (v := 3) hx hb dL_law_693 (by decide) ?_
  refine fz_cSi X hW (c_L_low l g (xv >>> ((13 : Int32) &&& 31)) 3 (by decide) _) lk_L_89 rfl ⟨Nat.le_of_ble_eq_true rfl, Nat.le_of_ble_eq_true rfl⟩ hl rfl (Nat.le_of_ble_eq_true rfl) dL_law_694 (ce0 hcs) (fun H locs hW => ?_)
  have join708 : ∀ (nn : Nat), 1 ≤ nn → nn ≤ 301 → ∀ (ls : Array Slot), lv_has ls 20 [(0, .ref b0), (1, .ref f), (2, .ref (r 0)), (3, .ref (r 1)), (4, .ref (r 2)), (5, .ref (r 3)), (6, .ref (r 4)), (7, .ref (r 5)), (8, .ref (r 6)), (9, .int (nI K)), (10, .int xv), (11, .int yv), (12, .int (nI kd)), (13, .int (nI lf)), (14, .int (nI tp)), (15, .int (nI wd)), (16, .int (nI hg))] → W p l e room_1 s m args below meth c H locs cells slots Q (F0 m 708 ls [.int (nI nn), .int (xv >>> (5 &&& 31))]) := by
    intro nn hn1 hn2 ls hl
    refine fz_cSi X hW (c_L_low l g (xv >>> ((5 : Int32) &&& 31)) (nI nn) (nI_ne0 (by omega) (by omega)) _) lk_L_89 rfl ⟨Nat.le_of_ble_eq_true rfl, Nat.le_of_ble_eq_true rfl⟩ hl rfl (Nat.le_of_ble_eq_true rfl) dL_law_708 (ce0 hcs) (fun H locs hW => ?_)
    obtain ⟨bg, hbg, ebg⟩ := low_is (xv >>> ((5 : Int32) &&& 31)) (n := nn) (by omega) (by omega)
    refine fz_top (x' := nI bg) ebg ?_
    refine lv_istore (lv' := [(17, .int (nI bg)), (0, .ref b0), (1, .ref f), (2, .ref (r 0)), (3, .ref (r 1)), (4, .ref (r 2)), (5, .ref (r 3)), (6, .ref (r 4)), (7, .ref (r 5)), (8, .ref (r 6)), (9, .int (nI K)), (10, .int xv), (11, .int yv), (12, .int (nI kd)), (13, .int (nI lf)), (14, .int (nI tp)), (15, .int (nI wd)), (16, .int (nI hg))]) hx hb dL_law_711 hl (by decide) rfl (fun ls hl => ?_)
    refine lv_iload hx hb dL_law_713 (lv_at hl 0 rfl) ?_
    refine lv_aload_n hx hb dL_law_715 rfl (lv_at hl 3 rfl) ?_
    refine lv_aload_n hx hb dL_law_716 rfl (lv_at hl 4 rfl) ?_
    refine lv_aload hx hb dL_law_717 (lv_at hl 5 rfl) ?_
    refine lv_aload hx hb dL_law_719 (lv_at hl 6 rfl) ?_
    refine lv_aload hx hb dL_law_721 (lv_at hl 7 rfl) ?_
    refine lv_aload hx hb dL_law_723 (lv_at hl 8 rfl) ?_
    refine lv_aload hx hb dL_law_725 (lv_at hl 9 rfl) ?_
    refine fz_cK X hW (wr := FW g f a b v u) [35, 36, 37, 38, 39, 40, 41] [0, 1, 2, 3, 4, 5, 6, 7, 8, 9, 10, 11, 12, 13, 14, 15, 16, 17, 18, 19, 20, 21, 22, 23, 24, 25, 26, 27, 28, 29, 30, 31, 32, 33, 34] (c_L_step l g r x v v.us (nI bg) T hB.1 hB.2 hT) lk_L_103 rfl rfl rfl rfl (by decide) rfl ⟨Nat.le_of_ble_eq_true rfl, Nat.le_of_ble_eq_true rfl⟩ hl rfl (Nat.le_of_ble_eq_true rfl) dL_law_727 (ce hcs (by omega) (by omega)) (fun W9 H locs hK hW => ?_)
    obtain ⟨x1, rfl, hr2, hi2⟩ := hK
    have hW : fz_W g A s (LW g f a b v u r x1) H locs := hW
    refine lv_istore (lv' := [(18, .int ((psA v (nI bg)).1)), (17, .int (nI bg)), (0, .ref b0), (1, .ref f), (2, .ref (r 0)), (3, .ref (r 1)), (4, .ref (r 2)), (5, .ref (r 3)), (6, .ref (r 4)), (7, .ref (r 5)), (8, .ref (r 6)), (9, .int (nI K)), (10, .int xv), (11, .int yv), (12, .int (nI kd)), (13, .int (nI lf)), (14, .int (nI tp)), (15, .int (nI wd)), (16, .int (nI hg))]) hx hb dL_law_730 hl (by decide) rfl (fun ls hl => ?_)
    refine lv_aload hx hb dL_law_732 (lv_at hl 10 rfl) ?_
    refine lv_iconst (v := 3) hx hb dL_law_734 (by decide) ?_
    refine lv_dup2_11 hx hb dL_law_735 rfl rfl ?_
    refine fz_il X hW 41 (3) rfl rfl (by omega) (by decide) dL_law_736 ?_
    refine lv_iload hx hb dL_law_737 (lv_at hl 0 rfl) ?_
    refine lv_iadd hx hb dL_law_739 ?_
    refine fz_is X hW 41 (3) rfl rfl (by omega) (by decide) dL_law_740 (fun H locs hW => ?_)
    have hW : fz_W g A s (LW g f a b v u r (x1.ggS (upd x1.gg 3 (x1.gg 3 + (psA v (nI bg)).1)))) H locs := hW
    refine lv_aload_n hx hb dL_law_741 rfl (lv_at hl 3 rfl) ?_
    refine lv_iload hx hb dL_law_742 (lv_at hl 1 rfl) ?_
    refine fz_cVi X hW (fz_C.lf (k_X3_step l g f a b v u (nI bg) (okG_n (by omega)) hB.2.1.1 hB.2.1.2.1 (inv_sok hB.2.1).2.2) r (x1.ggS (upd x1.gg 3 (x1.gg 3 + (psA v (nI bg)).1)))) lk_L_107 (ci := 3) (q0 := 0) rfl rfl rfl rfl ⟨Nat.le_of_ble_eq_true rfl, Nat.le_of_ble_eq_true rfl⟩ hl rfl (Nat.le_of_ble_eq_true rfl) dL_law_744 (ce hcs (by omega) (by omega)) (fun H locs hW => ?_)
    refine lv_iload hx hb dL_law_747 (lv_at hl 0 rfl) ?_
    refine lv_icmp_eq (tgt := 754) hx hb dL_law_749 (by decide) (fun c749 => ?_) (fun c749 => ?_)
    · skip
      refine W.widen (k := cells + 6) (n := slots + 60) (by omega) (by omega) ?_
      exact kk (psV v (nI bg)) ((x1.ggS (upd x1.gg 3 (x1.gg 3 + (psA v (nI bg)).1)))) _ _ _ (⟨rel_us hr2, hi2⟩) hW (lv_sub hl [2, 3, 4, 5, 6, 7, 8, 9, 10, 11] rfl)
    · exact absurd rfl c749
  refine lv_if_ne (tgt := 706) hx hb dL_law_697 (by decide) (fun c697 => ?_) (fun c697 => ?_)
  · skip
    refine lv_bipush (v := 12) hx hb dL_law_706 (by decide) ?_
    exact join708 12 (by omega) (by omega) _ (lv_sub hl [0, 1, 2, 3, 4, 5, 6, 7, 8, 9, 10, 11, 12, 13, 14, 15, 16] rfl)
  · skip
    refine lv_sipush (v := 301) hx hb dL_law_700 (by decide) ?_
    refine lv_goto (tgt := 708) hx hb dL_law_703 (by decide) ?_
    exact join708 301 (by omega) (by omega) _ (lv_sub hl [0, 1, 2, 3, 4, 5, 6, 7, 8, 9, 10, 11, 12, 13, 14, 15, 16] rfl)
