set_option maxHeartbeats 4000000 in
set_option maxRecDepth 100000 in
theorem k_X3_fill (l : Launch) (g : GG) (f : Nat) (a b : Nat → Nat) (v u : SV) (x y w h q : Int32) (kb : okB x y w h) (kq : okP q) : fz_C l g yX3_fill cX3_fill 6 (some .int) 8 134 [.ref f, .int x, .int y, .int w, .int h, .int q] (FW g f a b v u) (FW g f a b (paV v x.toNatClampNeg y.toNatClampNeg w.toNatClampNeg h.toNatClampNeg q) u) (some (.int (bcL (usF (paV v x.toNatClampNeg y.toNatClampNeg w.toNatClampNeg h.toNatClampNeg q) 48)))) := by
  refine fz_C.of (by decide) (Nat.le_of_ble_eq_true rfl) ?_
  intro p e s m args below meth c A ls X hW hl
  have hx := X.1
  have hb := X.2.1
  have hl : lv_has ls 6 [(0, .ref f), (1, .int x), (2, .int y), (3, .int w), (4, .int h), (5, .int q)] := hl
  have X : fz_X p s m meth c RX3 cX3_fill 6 (some .int) g A := X
  have hW : fz_W g A s (FW g f a b v u) s.heap [] := hW
  obtain ⟨i, j, wd, hg, e1, e2, e3, e4, -, -, b1, b2, n1, n2, n3, n4⟩ := okB_nat kb
  refine lv_iload_n hx hb dX3_fill_0 rfl (lv_at hl 1 rfl) ?_
  refine lv_iload_n hx hb dX3_fill_1 rfl (lv_at hl 2 rfl) ?_
  refine lv_iload_n hx hb dX3_fill_2 rfl (lv_at hl 3 rfl) ?_
  refine lv_iload hx hb dX3_fill_3 (lv_at hl 4 rfl) ?_
  refine fz_cSv X hW (k_X3_checkBlock l g x y w h kb _) lk_X3_19 rfl ⟨Nat.le_of_ble_eq_true rfl, Nat.le_of_ble_eq_true rfl⟩ hl rfl (Nat.le_of_ble_eq_true rfl) dX3_fill_5 ⟨Nat.le_refl _, Nat.le_refl _⟩ (fun H locs hW => ?_)
  refine lv_iload hx hb dX3_fill_8 (lv_at hl 5 rfl) ?_
  refine lv_if_lt (tgt := 21) hx hb dX3_fill_10 (by decide) (fun c10 => ?_) (fun c10 => ?_)
  · exact absurd c10 kq.1
  · skip
    refine lv_iload hx hb dX3_fill_13 (lv_at hl 5 rfl) ?_
    refine lv_sipush (v := 255) hx hb dX3_fill_15 (by decide) ?_
    refine lv_icmp_le (tgt := 31) hx hb dX3_fill_18 (by decide) (fun c18 => ?_) (fun c18 => ?_)
    · skip
      subst e1; subst e2; subst e3; subst e4
      refine lv_aload_n hx hb dX3_fill_31 rfl (lv_at hl 0 rfl) ?_
      refine gf_X3_10 X hW 0 rfl rfl dX3_fill_32 ?_
      refine lv_iload_n hx hb dX3_fill_35 rfl (lv_at hl 1 rfl) ?_
      refine lv_iload_n hx hb dX3_fill_36 rfl (lv_at hl 2 rfl) ?_
      refine lv_iload_n hx hb dX3_fill_37 rfl (lv_at hl 3 rfl) ?_
      refine lv_iload hx hb dX3_fill_38 (lv_at hl 4 rfl) ?_
      refine lv_iload hx hb dX3_fill_40 (lv_at hl 5 rfl) ?_
      refine fz_cVv X hW (cf_paint l g f a b v u i j wd hg q b1 b2) lk_X3_30 (ci := 2) (q0 := 1) rfl rfl rfl rfl ⟨Nat.le_of_ble_eq_true rfl, Nat.le_of_ble_eq_true rfl⟩ hl rfl (Nat.le_of_ble_eq_true rfl) dX3_fill_42 ⟨Nat.le_refl _, Nat.le_refl _⟩ (fun H locs hW => ?_)
      refine lv_aload_n hx hb dX3_fill_45 rfl (lv_at hl 0 rfl) ?_
      refine gf_X3_10 X hW 0 rfl rfl dX3_fill_46 ?_
      refine fz_cVi X hW (cf_countUnlike l g f a b (paV v i j wd hg q) u) lk_X3_34 (ci := 2) (q0 := 1) rfl rfl rfl rfl ⟨Nat.le_of_ble_eq_true rfl, Nat.le_of_ble_eq_true rfl⟩ hl rfl (Nat.le_of_ble_eq_true rfl) dX3_fill_49 ⟨Nat.le_refl _, Nat.le_refl _⟩ (fun H locs hW => ?_)
      exact fz_ri X (fz_cast (by rw [n1, n2, n3, n4]) hW) (by rw [n1, n2, n3, n4]) dX3_fill_52
    · exact absurd kq.2 c18
set_option maxHeartbeats 4000000 in
set_option maxRecDepth 100000 in
theorem k_X3_move (l : Launch) (g : GG) (f : Nat) (a b : Nat → Nat) (v u : SV) (x y w h x2 y2 : Int32) (kb : okB x y w h) (kb2 : okB x2 y2 w h) (kne : ¬ (x = x2 ∧ y = y2)) (hwm : v.wm ≤ 4) : fz_C l g yX3_move cX3_move 7 (some .int) 8 134 [.ref f, .int x, .int y, .int w, .int h, .int x2, .int y2] (FW g f a b v u) (FW g f a b (shV v (mkM x.toNatClampNeg y.toNatClampNeg w.toNatClampNeg h.toNatClampNeg x2.toNatClampNeg y2.toNatClampNeg)) u) (some (.int (nI (shV v (mkM x.toNatClampNeg y.toNatClampNeg w.toNatClampNeg h.toNatClampNeg x2.toNatClampNeg y2.toNatClampNeg)).wm))) := by
  refine fz_C.of (by decide) (Nat.le_of_ble_eq_true rfl) ?_
  intro p e s m args below meth c A ls X hW hl
  have hx := X.1
  have hb := X.2.1
  have hl : lv_has ls 7 [(0, .ref f), (1, .int x), (2, .int y), (3, .int w), (4, .int h), (5, .int x2), (6, .int y2)] := hl
  have X : fz_X p s m meth c RX3 cX3_move 7 (some .int) g A := X
  have hW : fz_W g A s (FW g f a b v u) s.heap [] := hW
  obtain ⟨i, j, wd, hg, e1, e2, e3, e4, -, -, b1, b2, n1, n2, n3, n4⟩ := okB_nat kb
  obtain ⟨i2, j2, wd2, hg2, e5, e6, -, -, -, -, b3, b4, n5, n6, n7, n8⟩ := okB_nat kb2
  have ew : wd2 = wd := n7.symm.trans n3
  have eh : hg2 = hg := n8.symm.trans n4
  rw [ew] at b3
  rw [eh] at b4
  refine lv_iload_n hx hb dX3_move_0 rfl (lv_at hl 1 rfl) ?_
  refine lv_iload_n hx hb dX3_move_1 rfl (lv_at hl 2 rfl) ?_
  refine lv_iload_n hx hb dX3_move_2 rfl (lv_at hl 3 rfl) ?_
  refine lv_iload hx hb dX3_move_3 (lv_at hl 4 rfl) ?_
  refine fz_cSv X hW (k_X3_checkBlock l g x y w h kb _) lk_X3_19 rfl ⟨Nat.le_of_ble_eq_true rfl, Nat.le_of_ble_eq_true rfl⟩ hl rfl (Nat.le_of_ble_eq_true rfl) dX3_move_5 ⟨Nat.le_refl _, Nat.le_refl _⟩ (fun H locs hW => ?_)
  refine lv_iload hx hb dX3_move_8 (lv_at hl 5 rfl) ?_
  refine lv_iload hx hb dX3_move_10 (lv_at hl 6 rfl) ?_
  refine lv_iload_n hx hb dX3_move_12 rfl (lv_at hl 3 rfl) ?_
  refine lv_iload hx hb dX3_move_13 (lv_at hl 4 rfl) ?_
  refine fz_cSv X hW (k_X3_checkBlock l g x2 y2 w h kb2 _) lk_X3_19 rfl ⟨Nat.le_of_ble_eq_true rfl, Nat.le_of_ble_eq_true rfl⟩ hl rfl (Nat.le_of_ble_eq_true rfl) dX3_move_15 ⟨Nat.le_refl _, Nat.le_refl _⟩ (fun H locs hW => ?_)
  refine lv_iload_n hx hb dX3_move_18 rfl (lv_at hl 1 rfl) ?_
  refine lv_iload hx hb dX3_move_19 (lv_at hl 5 rfl) ?_
  refine lv_icmp_ne (tgt := 40) hx hb dX3_move_21 (by decide) (fun c21 => ?_) (fun c21 => ?_)
  · skip
    subst e1; subst e2; subst e3; subst e4; subst e5; subst e6
    refine lv_aload_n hx hb dX3_move_40 rfl (lv_at hl 0 rfl) ?_
    refine gf_X3_10 X hW 0 rfl rfl dX3_move_41 ?_
    refine lv_iload_n hx hb dX3_move_44 rfl (lv_at hl 1 rfl) ?_
    refine lv_iload_n hx hb dX3_move_45 rfl (lv_at hl 2 rfl) ?_
    refine lv_iload_n hx hb dX3_move_46 rfl (lv_at hl 3 rfl) ?_
    refine lv_iload hx hb dX3_move_47 (lv_at hl 4 rfl) ?_
    refine lv_iload hx hb dX3_move_49 (lv_at hl 5 rfl) ?_
    refine lv_iload hx hb dX3_move_51 (lv_at hl 6 rfl) ?_
    refine fz_cVv X hW (cf_shift l g f a b v u (mkM i j wd hg i2 j2) ⟨b1, b2, b3, b4⟩ hwm) lk_X3_40 (ci := 2) (q0 := 1) rfl rfl rfl rfl ⟨Nat.le_of_ble_eq_true rfl, Nat.le_of_ble_eq_true rfl⟩ hl rfl (Nat.le_of_ble_eq_true rfl) dX3_move_53 ⟨Nat.le_refl _, Nat.le_refl _⟩ (fun H locs hW => ?_)
    refine lv_aload_n hx hb dX3_move_56 rfl (lv_at hl 0 rfl) ?_
    refine gf_X3_10 X hW 0 rfl rfl dX3_move_57 ?_
    refine gf_X3_44 X hW 1 rfl rfl dX3_move_60 ?_
    exact fz_ri X (fz_cast (by rw [n1, n2, n3, n4, n5, n6]) hW) (by rw [n1, n2, n3, n4, n5, n6]) dX3_move_63
  · skip
    refine lv_iload_n hx hb dX3_move_24 rfl (lv_at hl 2 rfl) ?_
    refine lv_iload hx hb dX3_move_25 (lv_at hl 6 rfl) ?_
    refine lv_icmp_ne (tgt := 40) hx hb dX3_move_27 (by decide) (fun c27 => ?_) (fun c27 => ?_)
    · skip
      subst e1; subst e2; subst e3; subst e4; subst e5; subst e6
      refine lv_aload_n hx hb dX3_move_40 rfl (lv_at hl 0 rfl) ?_
      refine gf_X3_10 X hW 0 rfl rfl dX3_move_41 ?_
      refine lv_iload_n hx hb dX3_move_44 rfl (lv_at hl 1 rfl) ?_
      refine lv_iload_n hx hb dX3_move_45 rfl (lv_at hl 2 rfl) ?_
      refine lv_iload_n hx hb dX3_move_46 rfl (lv_at hl 3 rfl) ?_
      refine lv_iload hx hb dX3_move_47 (lv_at hl 4 rfl) ?_
      refine lv_iload hx hb dX3_move_49 (lv_at hl 5 rfl) ?_
      refine lv_iload hx hb dX3_move_51 (lv_at hl 6 rfl) ?_
      refine fz_cVv X hW (cf_shift l g f a b v u (mkM i j wd hg i2 j2) ⟨b1, b2, b3, b4⟩ hwm) lk_X3_40 (ci := 2) (q0 := 1) rfl rfl rfl rfl ⟨Nat.le_of_ble_eq_true rfl, Nat.le_of_ble_eq_true rfl⟩ hl rfl (Nat.le_of_ble_eq_true rfl) dX3_move_53 ⟨Nat.le_refl _, Nat.le_refl _⟩ (fun H locs hW => ?_)
      refine lv_aload_n hx hb dX3_move_56 rfl (lv_at hl 0 rfl) ?_
      refine gf_X3_10 X hW 0 rfl rfl dX3_move_57 ?_
      refine gf_X3_44 X hW 1 rfl rfl dX3_move_60 ?_
      exact fz_ri X (fz_cast (by rw [n1, n2, n3, n4, n5, n6]) hW) (by rw [n1, n2, n3, n4, n5, n6]) dX3_move_63
    · exact absurd ⟨c21, c27⟩ kne
set_option maxHeartbeats 4000000 in
set_option maxRecDepth 100000 in
theorem k_X3_stepsToGo (l : Launch) (g : GG) (f : Nat) (a b : Nat → Nat) (v u : SV) (x : Int32) (hok : SOK v) (kg : okG x) : fz_C l g yX3_stepsToGo cX3_stepsToGo 5 (some .int) 7 145 [.ref f, .int x] (FW g f a b v u) (FW g f a b v (stgF x (coV u v) 0 100).2) (some (.int (stgF x (coV u v) 0 100).1)) := by
  refine fz_C.of (by decide) (Nat.le_of_ble_eq_true rfl) ?_
  intro p e s m args below meth c A ls X hW hl
  have hx := X.1
  have hb := X.2.1
  have hl : lv_has ls 5 [(0, .ref f), (1, .int x)] := hl
  have X : fz_X p s m meth c RX3 cX3_stepsToGo 5 (some .int) g A := X
  have hW : fz_W g A s (FW g f a b v u) s.heap [] := hW
  refine lv_iload_n hx hb dX3_stepsToGo_0 rfl (lv_at hl 1 rfl) ?_
  refine fz_cSv X hW (k_X3_checkBudget l g x kg _) lk_X3_59 rfl ⟨Nat.le_of_ble_eq_true rfl, Nat.le_of_ble_eq_true rfl⟩ hl rfl (Nat.le_of_ble_eq_true rfl) dX3_stepsToGo_1 ⟨Nat.le_refl _, Nat.le_refl _⟩ (fun H locs hW => ?_)
  refine lv_aload_n hx hb dX3_stepsToGo_4 rfl (lv_at hl 0 rfl) ?_
  refine gf_X3_16 X hW 0 rfl rfl dX3_stepsToGo_5 ?_
  refine lv_aload_n hx hb dX3_stepsToGo_8 rfl (lv_at hl 0 rfl) ?_
  refine gf_X3_10 X hW 0 rfl rfl dX3_stepsToGo_9 ?_
  refine fz_cVv X hW (cf_copyFrom l g f a b v u hok.1) lk_X3_118 (ci := 2) (q0 := 18) rfl rfl rfl rfl ⟨Nat.le_of_ble_eq_true rfl, Nat.le_of_ble_eq_true rfl⟩ hl rfl (Nat.le_of_ble_eq_true rfl) dX3_stepsToGo_12 ⟨Nat.le_refl _, Nat.le_refl _⟩ (fun H locs hW => ?_)
  refine lv_iconst (v := 0) hx hb dX3_stepsToGo_15 (by decide) ?_
  refine lv_istore_n (lv' := [(2, .int 0), (0, .ref f), (1, .int x)]) hx hb dX3_stepsToGo_16 rfl hl (by decide) rfl (fun ls hl => ?_)
  have loop17 : ∀ (k : Nat) (n : Nat) (w : SV), n ≤ 100 → 100 < n + k → stgF x (coV u v) 0 100 = stgF x w n (100 - n) → SOK w → ∀ (H : Heap) (locs : List Loc) (ls : Array Slot), fz_W g A s (FW g f a b v w) H locs → lv_has ls 5 [(0, .ref f), (1, .int x), (2, .int (nI n))] → W p l e (fz_R 7 0 0 145) s m args below meth c H locs 0 0 (MQ below (fz_Q g (FW g f a b v (stgF x (coV u v) 0 100).2) (some (.int (stgF x (coV u v) 0 100).1)) A) args s 0 0 A) (F0 m 17 ls []) := by
    intro k
    induction k with
    | zero =>
      intro n w hn hk
      omega
    | succ k ih17 =>
      intro n w hn hk he hk2 H locs ls hW hl
      refine lv_iload_n hx hb dX3_stepsToGo_17 rfl (lv_at hl 2 rfl) ?_
      refine lv_bipush (v := 100) hx hb dX3_stepsToGo_18 (by decide) ?_
      refine lv_icmp_ge (tgt := 68) hx hb dX3_stepsToGo_20 (by decide) (fun c20 => ?_) (fun c20 => ?_)
      · skip
        have h20 : 100 ≤ n := (nI_leI (a := 100) (b := n) (by omega) (by omega)).mp c20
        have hs : stgF x (coV u v) 0 100 = (if alI w = 0 then -1 else nI n, w) := by rw [he, show 100 - n = 0 by omega]; rfl
        refine lv_aload_n hx hb dX3_stepsToGo_68 rfl (lv_at hl 0 rfl) ?_
        refine gf_X3_16 X hW 0 rfl rfl dX3_stepsToGo_69 ?_
        refine fz_cVi X hW (cf_isAllSentB l g f a b v w hk2.1) lk_X3_122 (ci := 2) (q0 := 18) rfl rfl rfl rfl ⟨Nat.le_of_ble_eq_true rfl, Nat.le_of_ble_eq_true rfl⟩ hl rfl (Nat.le_of_ble_eq_true rfl) dX3_stepsToGo_72 ⟨Nat.le_refl _, Nat.le_refl _⟩ (fun H locs hW => ?_)
        refine lv_if_eq (tgt := 82) hx hb dX3_stepsToGo_75 (by decide) (fun c75 => ?_) (fun c75 => ?_)
        · skip
          refine lv_iconst (v := (-1)) hx hb dX3_stepsToGo_82 (by decide) ?_
          exact fz_ri X (fz_cast (by rw [hs]) hW) (by rw [hs]; exact (if_pos c75).symm) dX3_stepsToGo_83
        · skip
          refine lv_iload_n hx hb dX3_stepsToGo_78 rfl (lv_at hl 2 rfl) ?_
          refine lv_goto (tgt := 83) hx hb dX3_stepsToGo_79 (by decide) ?_
          exact fz_ri X (fz_cast (by rw [hs]) hW) (by rw [hs]; exact (if_neg c75).symm) dX3_stepsToGo_83
      · skip
        have h20 : n < 100 := Nat.not_le.mp (fun z => c20 ((nI_leI (a := 100) (b := n) (by omega) (by omega)).mpr z))
        refine lv_aload_n hx hb dX3_stepsToGo_23 rfl (lv_at hl 0 rfl) ?_
        refine gf_X3_16 X hW 0 rfl rfl dX3_stepsToGo_24 ?_
        refine fz_cVi X hW (cf_isAllSentB l g f a b v w hk2.1) lk_X3_122 (ci := 2) (q0 := 18) rfl rfl rfl rfl ⟨Nat.le_of_ble_eq_true rfl, Nat.le_of_ble_eq_true rfl⟩ hl rfl (Nat.le_of_ble_eq_true rfl) dX3_stepsToGo_27 ⟨Nat.le_refl _, Nat.le_refl _⟩ (fun H locs hW => ?_)
        refine lv_if_ne (tgt := 68) hx hb dX3_stepsToGo_30 (by decide) (fun c30 => ?_) (fun c30 => ?_)
        · skip
          have c30 : ¬ alI w = 0 := c30
          have hs : stgF x (coV u v) 0 100 = (nI n, w) := by rw [he, show 100 - n = (100 - (n + 1)) + 1 by omega]; exact if_neg c30
          refine lv_aload_n hx hb dX3_stepsToGo_68 rfl (lv_at hl 0 rfl) ?_
          refine gf_X3_16 X hW 0 rfl rfl dX3_stepsToGo_69 ?_
          refine fz_cVi X hW (cf_isAllSentB l g f a b v w hk2.1) lk_X3_122 (ci := 2) (q0 := 18) rfl rfl rfl rfl ⟨Nat.le_of_ble_eq_true rfl, Nat.le_of_ble_eq_true rfl⟩ hl rfl (Nat.le_of_ble_eq_true rfl) dX3_stepsToGo_72 ⟨Nat.le_refl _, Nat.le_refl _⟩ (fun H locs hW => ?_)
          refine lv_if_eq (tgt := 82) hx hb dX3_stepsToGo_75 (by decide) (fun c75 => ?_) (fun c75 => ?_)
          · skip
            refine lv_iconst (v := (-1)) hx hb dX3_stepsToGo_82 (by decide) ?_
            exact fz_ri X (fz_cast (by rw [hs]) hW) (absurd c75 c30) dX3_stepsToGo_83
          · skip
            refine lv_iload_n hx hb dX3_stepsToGo_78 rfl (lv_at hl 2 rfl) ?_
            refine lv_goto (tgt := 83) hx hb dX3_stepsToGo_79 (by decide) ?_
            exact fz_ri X (fz_cast (by rw [hs]) hW) (by rw [hs]) dX3_stepsToGo_83
        · skip
          have c30 : alI w = 0 := c30
          refine lv_aload_n hx hb dX3_stepsToGo_33 rfl (lv_at hl 0 rfl) ?_
          refine gf_X3_16 X hW 0 rfl rfl dX3_stepsToGo_34 ?_
          refine fz_cVi X hW (cf_hasFilmB l g f a b v w) lk_X3_126 (ci := 2) (q0 := 18) rfl rfl rfl rfl ⟨Nat.le_of_ble_eq_true rfl, Nat.le_of_ble_eq_true rfl⟩ hl rfl (Nat.le_of_ble_eq_true rfl) dX3_stepsToGo_37 ⟨Nat.le_refl _, Nat.le_refl _⟩ (fun H locs hW => ?_)
          refine lv_istore_n (lv' := [(3, .int (hfF w 0 48)), (0, .ref f), (1, .int x), (2, .int (nI n))]) hx hb dX3_stepsToGo_40 rfl hl (by decide) rfl (fun ls hl => ?_)
          refine lv_aload_n hx hb dX3_stepsToGo_41 rfl (lv_at hl 1 rfl) ?_
          refine gf_X3_16 X hW 0 rfl rfl dX3_stepsToGo_42 ?_
          refine lv_iload_n hx hb dX3_stepsToGo_45 rfl (lv_at hl 2 rfl) ?_
          refine fz_cVi X hW (cf_passStepB l g f a b v w x hk2.1 hk2.2.1 hk2.2.2) lk_X3_63 (ci := 2) (q0 := 18) rfl rfl rfl rfl ⟨Nat.le_of_ble_eq_true rfl, Nat.le_of_ble_eq_true rfl⟩ hl rfl (Nat.le_of_ble_eq_true rfl) dX3_stepsToGo_46 ⟨Nat.le_refl _, Nat.le_refl _⟩ (fun H locs hW => ?_)
          refine lv_istore (lv' := [(4, .int ((psA w x).1)), (3, .int (hfF w 0 48)), (0, .ref f), (1, .int x), (2, .int (nI n))]) hx hb dX3_stepsToGo_49 hl (by decide) rfl (fun ls hl => ?_)
          refine lv_iload hx hb dX3_stepsToGo_51 (lv_at hl 0 rfl) ?_
          refine lv_if_ne (tgt := 62) hx hb dX3_stepsToGo_53 (by decide) (fun c53 => ?_) (fun c53 => ?_)
          · skip
            have hneg : ¬ ((psA w x).1 = 0 ∧ hfF w 0 48 = 0) := fun z => c53 z.1
            refine lv_iinc (v := nI (n + 1)) (lv' := [(2, .int (nI (n + 1))), (4, .int ((psA w x).1)), (3, .int (hfF w 0 48)), (0, .ref f), (1, .int x)]) hx hb dX3_stepsToGo_62 hl (k := 4) rfl (nI_1 _) (by decide) rfl (fun ls hl => ?_)
            refine lv_goto (tgt := 17) hx hb dX3_stepsToGo_65 (by decide) ?_
            exact ih17 (n + 1) (psV w x) (by omega) (by omega) (by rw [he, show 100 - n = (100 - (n + 1)) + 1 by omega]; exact (if_pos c30).trans (if_neg hneg)) (SOK_ps w x hk2) _ _ _ (fz_cast (rfl) hW) (lv_sub hl [3, 4, 0] rfl)
          · skip
            refine lv_iload_n hx hb dX3_stepsToGo_56 rfl (lv_at hl 1 rfl) ?_
            refine lv_if_ne (tgt := 62) hx hb dX3_stepsToGo_57 (by decide) (fun c57 => ?_) (fun c57 => ?_)
            · skip
              have hneg : ¬ ((psA w x).1 = 0 ∧ hfF w 0 48 = 0) := fun z => c57 z.2
              refine lv_iinc (v := nI (n + 1)) (lv' := [(2, .int (nI (n + 1))), (4, .int ((psA w x).1)), (3, .int (hfF w 0 48)), (0, .ref f), (1, .int x)]) hx hb dX3_stepsToGo_62 hl (k := 4) rfl (nI_1 _) (by decide) rfl (fun ls hl => ?_)
              refine lv_goto (tgt := 17) hx hb dX3_stepsToGo_65 (by decide) ?_
              exact ih17 (n + 1) (psV w x) (by omega) (by omega) (by rw [he, show 100 - n = (100 - (n + 1)) + 1 by omega]; exact (if_pos c30).trans (if_neg hneg)) (SOK_ps w x hk2) _ _ _ (fz_cast (rfl) hW) (lv_sub hl [3, 4, 0] rfl)
            · skip
              have hs : stgF x (coV u v) 0 100 = (-1, psV w x) := by rw [he, show 100 - n = (100 - (n + 1)) + 1 by omega]; exact (if_pos c30).trans (if_pos ⟨c53, c57⟩)
              refine lv_iconst (v := (-1)) hx hb dX3_stepsToGo_60 (by decide) ?_
              exact fz_ri X (fz_cast (by rw [hs]) hW) (by rw [hs]) dX3_stepsToGo_61
  exact loop17 101 0 (coV u v) (by omega) (by omega) rfl (SOK_co u v hok) _ _ _ (fz_cast (rfl) hW) (lv_sub hl [1, 2, 0] rfl)
