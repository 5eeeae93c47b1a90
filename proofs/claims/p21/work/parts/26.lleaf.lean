theorem mk_415 : fz_M (.constant RL 7 1000308237) := ⟨List.mem_of_getElem? (i := 415) (by decide +kernel), by decide +kernel⟩
theorem mk_416 : fz_M (.constant RL 8 751363411) := ⟨List.mem_of_getElem? (i := 416) (by decide +kernel), by decide +kernel⟩
theorem mk_420 : fz_M (.constant RL 9 2147483647) := ⟨List.mem_of_getElem? (i := 420) (by decide +kernel), by decide +kernel⟩
set_option maxHeartbeats 4000000 in
set_option maxRecDepth 100000 in
theorem c_L_low (l : Launch) (g : GG) (v n : Int32) (hn : ¬ n = 0) (ws : va_W) : fz_C l g yL_low cL_low 2 (some .int) 0 0 [.int v, .int n] (ws) (ws) (some (.int (lowI v n))) := by
  refine fz_C.of (by decide) (Nat.le_of_ble_eq_true rfl) ?_
  intro p e s m args below meth c A ls X hW hl
  have hx := X.1
  have hb := X.2.1
  have hl : lv_has ls 2 [(0, .int v), (1, .int n)] := hl
  have X : fz_X p s m meth c RL cL_low 2 (some .int) g A := X
  have hW : fz_W g A s (ws) s.heap [] := hW
  refine lv_iload_n hx hb dL_low_0 rfl (lv_at hl 0 rfl) ?_
  refine lv_ldc hx hb X.2.2.2.2.1 (X.2.2.2.2.2.2.1.use mk_420 args) dL_low_1 ?_
  refine lv_iand hx hb dL_low_3 ?_
  refine lv_iload_n hx hb dL_low_4 rfl (lv_at hl 1 rfl) ?_
  refine lv_irem hx hb dL_low_5 hn ?_
  exact fz_ri X (fz_cast (rfl) hW) (rfl) dL_low_6
set_option maxHeartbeats 4000000 in
set_option maxRecDepth 100000 in
theorem c_L_kind (l : Launch) (g : GG) (r : Nat → Nat) (x : LV) (t : Nat) (ht : t < 48) (hn : ∃ k, k < 256 ∧ x.n t = nI k) (hh : ∃ k, k < 256 ∧ x.h t = nI k) : fz_C l g yL_kind cL_kind 5 (some .int) 0 0 [.int (nI t), .ref (r 0), .ref (r 3)] (RW g r x) (RW g r x) (some (.int (kdL x.n x.h t))) := by
  refine fz_C.of (by decide) (Nat.le_of_ble_eq_true rfl) ?_
  intro p e s m args below meth c A ls X hW hl
  have hx := X.1
  have hb := X.2.1
  have hl : lv_has ls 5 [(0, .int (nI t)), (1, .ref (r 0)), (2, .ref (r 3))] := hl
  have X : fz_X p s m meth c RL cL_kind 5 (some .int) g A := X
  have hW : fz_W g A s (RW g r x) s.heap [] := hW
  obtain ⟨p1, hp1, ep1⟩ := hn
  obtain ⟨b1, hb1, eb1⟩ := hh
  refine lv_iconst (v := 0) hx hb dL_kind_0 (by decide) ?_
  refine lv_istore_n (lv' := [(3, .int 0), (0, .int (nI t)), (1, .ref (r 0)), (2, .ref (r 3))]) hx hb dL_kind_1 rfl hl (by decide) rfl (fun ls hl => ?_)
  refine lv_aload_n hx hb dL_kind_2 rfl (lv_at hl 3 rfl) ?_
  refine lv_iload_n hx hb dL_kind_3 rfl (lv_at hl 1 rfl) ?_
  refine fz_il X hW 3 (t) rfl rfl (by omega) (by decide) dL_kind_4 ?_
  refine fz_top (x' := nI b1) eb1 ?_
  refine lv_istore (lv' := [(4, .int (nI b1)), (3, .int 0), (0, .int (nI t)), (1, .ref (r 0)), (2, .ref (r 3))]) hx hb dL_kind_5 hl (by decide) rfl (fun ls hl => ?_)
  have loop7 : ∀ (k : Nat) (b mm : Nat), b < 256 → b < k → mm + popB 8 b = popB 8 b1 → ∀ (H : Heap) (locs : List Loc) (ls : Array Slot), fz_W g A s (RW g r x) H locs → lv_has ls 5 [(0, .int (nI t)), (1, .ref (r 0)), (2, .ref (r 3)), (3, .int (nI mm)), (4, .int (nI b))] → W p l e (fz_R 0 0 0 0) s m args below meth c H locs 0 0 (MQ below (fz_Q g (RW g r x) (some (.int (kdL x.n x.h t))) A) args s 0 0 A) (F0 m 7 ls []) := by
    intro k
    induction k with
    | zero =>
      intro b mm hq hk
      omega
    | succ k ih7 =>
      intro b mm hq hk hs H locs ls hW hl
      refine lv_iload hx hb dL_kind_7 (lv_at hl 4 rfl) ?_
      refine lv_if_le (tgt := 28) hx hb dL_kind_9 (by decide) (fun c9 => ?_) (fun c9 => ?_)
      · skip
        have h9 : b = 0 := by
          have := (nI_leI (a := b) (b := 0) (by omega) (by omega)).mp c9
          omega
        subst h9
        have hmm : mm = popB 8 b1 := by rw [pop_0] at hs; exact hs
        subst hmm
        have eb : bcI (x.h t) = nI (popB 8 b1) := by rw [eb1]; exact pop_bc ⟨b1, hb1⟩
        have b8 := pop_8 ⟨b1, hb1⟩
        refine lv_iload_n hx hb dL_kind_28 rfl (lv_at hl 3 rfl) ?_
        refine lv_iconst (v := 4) hx hb dL_kind_29 (by decide) ?_
        refine lv_icmp_lt (tgt := 37) hx hb dL_kind_30 (by decide) (fun c30 => ?_) (fun c30 => ?_)
        · skip
          have k30 : bcI (x.h t) < 4 := by rw [eb]; exact c30
          refine lv_aload_n hx hb dL_kind_37 rfl (lv_at hl 1 rfl) ?_
          refine lv_iload_n hx hb dL_kind_38 rfl (lv_at hl 0 rfl) ?_
          refine fz_il X hW 0 (t) rfl rfl (by omega) (by decide) dL_kind_39 ?_
          refine lv_bipush (v := 64) hx hb dL_kind_40 (by decide) ?_
          refine lv_idiv hx hb dL_kind_42 (by decide) ?_
          refine lv_if_ne (tgt := 50) hx hb dL_kind_43 (by decide) (fun c43 => ?_) (fun c43 => ?_)
          · skip
            have k43 : ¬ x.n t < 64 := fun z => c43 (by rw [ep1] at z ⊢; exact (q64 ⟨p1, hp1⟩).mpr z)
            refine lv_iconst (v := 1) hx hb dL_kind_50 (by decide) ?_
            exact fz_ri X (fz_cast (rfl) hW) (by unfold kdL; rw [if_pos k30, if_neg k43]) dL_kind_51
          · skip
            have k43 : x.n t < 64 := by rw [ep1] at c43 ⊢; exact (q64 ⟨p1, hp1⟩).mp c43
            refine lv_iconst (v := 0) hx hb dL_kind_46 (by decide) ?_
            refine lv_goto (tgt := 51) hx hb dL_kind_47 (by decide) ?_
            exact fz_ri X (fz_cast (rfl) hW) (by unfold kdL; rw [if_pos k30, if_pos k43]) dL_kind_51
        · skip
          have k30 : ¬ bcI (x.h t) < 4 := by rw [eb]; exact c30
          refine lv_iconst (v := 2) hx hb dL_kind_33 (by decide) ?_
          refine lv_goto (tgt := 51) hx hb dL_kind_34 (by decide) ?_
          exact fz_ri X (fz_cast (rfl) hW) (by unfold kdL; rw [if_neg k30]) dL_kind_51
      · skip
        have h9 : 0 < b := Nat.not_le.mp (fun z => c9 ((nI_leI (a := b) (b := 0) (by omega) (by omega)).mpr z))
        refine lv_iload_n hx hb dL_kind_12 rfl (lv_at hl 3 rfl) ?_
        refine lv_iload hx hb dL_kind_13 (lv_at hl 4 rfl) ?_
        refine lv_iconst (v := 2) hx hb dL_kind_15 (by decide) ?_
        refine lv_irem hx hb dL_kind_16 (by decide) ?_
        refine lv_iadd hx hb dL_kind_17 ?_
        refine fz_top (x' := nI (mm + b % 2)) (by rw [show (2 : Int32) = nI 2 from rfl, pk_rem (by omega) (by decide) (by decide), nI_add]) ?_
        refine lv_istore_n (lv' := [(3, .int (nI (mm + b % 2))), (0, .int (nI t)), (1, .ref (r 0)), (2, .ref (r 3)), (4, .int (nI b))]) hx hb dL_kind_18 rfl hl (by decide) rfl (fun ls hl => ?_)
        refine lv_iload hx hb dL_kind_19 (lv_at hl 4 rfl) ?_
        refine lv_iconst (v := 2) hx hb dL_kind_21 (by decide) ?_
        refine lv_idiv hx hb dL_kind_22 (by decide) ?_
        refine fz_top (x' := nI (b / 2)) (by rw [show (2 : Int32) = nI 2 from rfl, pk_div (by omega) (by decide) (by decide)]) ?_
        refine lv_istore (lv' := [(4, .int (nI (b / 2))), (3, .int (nI (mm + b % 2))), (0, .int (nI t)), (1, .ref (r 0)), (2, .ref (r 3))]) hx hb dL_kind_23 hl (by decide) rfl (fun ls hl => ?_)
        refine lv_goto (tgt := 7) hx hb dL_kind_25 (by decide) ?_
        exact ih7 (b / 2) (mm + b % 2) (by omega) (by omega) (by have hps : popB 8 b = b % 2 + popB 8 (b / 2) := pop_s ⟨b, hq⟩; omega) _ _ _ (fz_cast (rfl) hW) (lv_sub hl [2, 3, 4, 1, 0] rfl)
  exact loop7 (b1 + 1) b1 0 hb1 (by omega) (Nat.zero_add _) _ _ _ (fz_cast (rfl) hW) (lv_sub hl [2, 3, 4, 1, 0] rfl)
set_option maxHeartbeats 4000000 in
set_option maxRecDepth 100000 in
theorem c_L_like (l : Launch) (g : GG) (r : Nat → Nat) (x : LV) (t : Nat) (ht : t < 48) : fz_C l g yL_like cL_like 5 none 0 0 [.int (nI t), .ref (r 0), .ref (r 1), .ref (r 2), .ref (r 6)] (RW g r x) (RW g r (lkV x t)) none := by
  refine fz_C.of (by decide) (Nat.le_of_ble_eq_true rfl) ?_
  intro p e s m args below meth c A ls X hW hl
  have hx := X.1
  have hb := X.2.1
  have hl : lv_has ls 5 [(0, .int (nI t)), (1, .ref (r 0)), (2, .ref (r 1)), (3, .ref (r 2)), (4, .ref (r 6))] := hl
  have X : fz_X p s m meth c RL cL_like 5 none g A := X
  have hW : fz_W g A s (RW g r x) s.heap [] := hW
  refine lv_aload_n hx hb dL_like_0 rfl (lv_at hl 1 rfl) ?_
  refine lv_iload_n hx hb dL_like_1 rfl (lv_at hl 0 rfl) ?_
  refine fz_il X hW 0 (t) rfl rfl (by omega) (by decide) dL_like_2 ?_
  refine lv_aload_n hx hb dL_like_3 rfl (lv_at hl 2 rfl) ?_
  refine lv_iload_n hx hb dL_like_4 rfl (lv_at hl 0 rfl) ?_
  refine fz_il X hW 1 (t) rfl rfl (by omega) (by decide) dL_like_5 ?_
  refine lv_icmp_ne (tgt := 16) hx hb dL_like_6 (by decide) (fun c6 => ?_) (fun c6 => ?_)
  · skip
    refine lv_aload_n hx hb dL_like_16 rfl (lv_at hl 3 rfl) ?_
    refine lv_iload_n hx hb dL_like_17 rfl (lv_at hl 0 rfl) ?_
    refine fz_il X hW 2 (t) rfl rfl (by omega) (by decide) dL_like_18 ?_
    refine lv_if_ge (tgt := 29) hx hb dL_like_19 (by decide) (fun c19 => ?_) (fun c19 => ?_)
    · skip
      exact fz_rv X (fz_cast (show RW g r x = RW g r (lkV x t) from congrArg (RW g r) (by unfold lkV; rw [if_neg c6, if_pos c19])) hW) dL_like_29
    · skip
      refine lv_aload_n hx hb dL_like_22 rfl (lv_at hl 3 rfl) ?_
      refine lv_iload_n hx hb dL_like_23 rfl (lv_at hl 0 rfl) ?_
      refine lv_aload hx hb dL_like_24 (lv_at hl 4 rfl) ?_
      refine lv_iconst (v := 0) hx hb dL_like_26 (by decide) ?_
      refine fz_il X hW 6 (0) rfl rfl (by omega) (by decide) dL_like_27 ?_
      refine fz_is X hW 2 (t) rfl rfl (by omega) (by decide) dL_like_28 (fun H locs hW => ?_)
      exact fz_rv X (fz_cast (show RW g r (x.uS (upd x.u t (x.gg 0))) = RW g r (lkV x t) from congrArg (RW g r) (by unfold lkV; rw [if_neg c6, if_neg c19])) hW) dL_like_29
  · skip
    refine lv_aload_n hx hb dL_like_9 rfl (lv_at hl 3 rfl) ?_
    refine lv_iload_n hx hb dL_like_10 rfl (lv_at hl 0 rfl) ?_
    refine lv_iconst (v := (-1)) hx hb dL_like_11 (by decide) ?_
    refine fz_is X hW 2 (t) rfl rfl (by omega) (by decide) dL_like_12 (fun H locs hW => ?_)
    refine lv_goto (tgt := 29) hx hb dL_like_13 (by decide) ?_
    exact fz_rv X (fz_cast (show RW g r (x.uS (upd x.u t (-1))) = RW g r (lkV x t) from congrArg (RW g r) (by unfold lkV; rw [if_pos c6])) hW) dL_like_29
set_option maxHeartbeats 4000000 in
set_option maxRecDepth 100000 in
theorem c_L_draw (l : Launch) (g : GG) (r : Nat → Nat) (x : LV) (t : Nat) (ht : t < 48) (q : Int32) : fz_C l g yL_draw cL_draw 7 none 1 24 [.int (nI t), .int q, .ref (r 0), .ref (r 1), .ref (r 2), .ref (r 3), .ref (r 6)] (RW g r x) (RW g r (drV x t q)) none := by
  refine fz_C.of (by decide) (Nat.le_of_ble_eq_true rfl) ?_
  intro p e s m args below meth c A ls X hW hl
  have hx := X.1
  have hb := X.2.1
  have hl : lv_has ls 7 [(0, .int (nI t)), (1, .int q), (2, .ref (r 0)), (3, .ref (r 1)), (4, .ref (r 2)), (5, .ref (r 3)), (6, .ref (r 6))] := hl
  have X : fz_X p s m meth c RL cL_draw 7 none g A := X
  have hW : fz_W g A s (RW g r x) s.heap [] := hW
  refine lv_aload_n hx hb dL_draw_0 rfl (lv_at hl 2 rfl) ?_
  refine lv_iload_n hx hb dL_draw_1 rfl (lv_at hl 0 rfl) ?_
  refine fz_il X hW 0 (t) rfl rfl (by omega) (by decide) dL_draw_2 ?_
  refine lv_iload_n hx hb dL_draw_3 rfl (lv_at hl 1 rfl) ?_
  refine lv_icmp_eq (tgt := 15) hx hb dL_draw_4 (by decide) (fun c4 => ?_) (fun c4 => ?_)
  · skip
    have e4 : drN x t q = x.nS (upd x.n t q) := by
      have : drH x t q = x := if_pos c4
      unfold drN
      rw [this]
    refine lv_aload_n hx hb dL_draw_15 rfl (lv_at hl 2 rfl) ?_
    refine lv_iload_n hx hb dL_draw_16 rfl (lv_at hl 0 rfl) ?_
    refine lv_iload_n hx hb dL_draw_17 rfl (lv_at hl 1 rfl) ?_
    refine fz_is X hW 0 (t) rfl rfl (by omega) (by decide) dL_draw_18 (fun H locs hW => ?_)
    have hW : fz_W g A s (RW g r (drN x t q)) H locs := fz_cast (by rw [e4]; first | done | rfl) hW
    refine lv_iload_n hx hb dL_draw_19 rfl (lv_at hl 0 rfl) ?_
    refine lv_aload_n hx hb dL_draw_20 rfl (lv_at hl 2 rfl) ?_
    refine lv_aload_n hx hb dL_draw_21 rfl (lv_at hl 3 rfl) ?_
    refine lv_aload hx hb dL_draw_22 (lv_at hl 4 rfl) ?_
    refine lv_aload hx hb dL_draw_24 (lv_at hl 6 rfl) ?_
    refine fz_cSv X hW (c_L_like l g r (drN x t q) t ht) lk_L_10 rfl ⟨Nat.le_of_ble_eq_true rfl, Nat.le_of_ble_eq_true rfl⟩ hl rfl (Nat.le_of_ble_eq_true rfl) dL_draw_26 ⟨Nat.le_refl _, Nat.le_refl _⟩ (fun H locs hW => ?_)
    exact fz_rv X (fz_cast (rfl) hW) dL_draw_29
  · skip
    have e4 : drN x t q = (x.hS (upd x.h t (x.h t ||| 1))).nS (upd x.n t q) := by
      have : drH x t q = x.hS (upd x.h t (x.h t ||| 1)) := if_neg c4
      unfold drN
      rw [this]
      rfl
    refine lv_aload hx hb dL_draw_7 (lv_at hl 5 rfl) ?_
    refine lv_iload_n hx hb dL_draw_9 rfl (lv_at hl 0 rfl) ?_
    refine lv_dup2_11 hx hb dL_draw_10 rfl rfl ?_
    refine fz_il X hW 3 (t) rfl rfl (by omega) (by decide) dL_draw_11 ?_
    refine lv_iconst (v := 1) hx hb dL_draw_12 (by decide) ?_
    refine lv_ior hx hb dL_draw_13 ?_
    refine fz_is X hW 3 (t) rfl rfl (by omega) (by decide) dL_draw_14 (fun H locs hW => ?_)
    refine lv_aload_n hx hb dL_draw_15 rfl (lv_at hl 2 rfl) ?_
    refine lv_iload_n hx hb dL_draw_16 rfl (lv_at hl 0 rfl) ?_
    refine lv_iload_n hx hb dL_draw_17 rfl (lv_at hl 1 rfl) ?_
    refine fz_is X hW 0 (t) rfl rfl (by omega) (by decide) dL_draw_18 (fun H locs hW => ?_)
    have hW : fz_W g A s (RW g r (drN x t q)) H locs := fz_cast (by rw [e4]; first | done | rfl) hW
    refine lv_iload_n hx hb dL_draw_19 rfl (lv_at hl 0 rfl) ?_
    refine lv_aload_n hx hb dL_draw_20 rfl (lv_at hl 2 rfl) ?_
    refine lv_aload_n hx hb dL_draw_21 rfl (lv_at hl 3 rfl) ?_
    refine lv_aload hx hb dL_draw_22 (lv_at hl 4 rfl) ?_
    refine lv_aload hx hb dL_draw_24 (lv_at hl 6 rfl) ?_
    refine fz_cSv X hW (c_L_like l g r (drN x t q) t ht) lk_L_10 rfl ⟨Nat.le_of_ble_eq_true rfl, Nat.le_of_ble_eq_true rfl⟩ hl rfl (Nat.le_of_ble_eq_true rfl) dL_draw_26 ⟨Nat.le_refl _, Nat.le_refl _⟩ (fun H locs hW => ?_)
    exact fz_rv X (fz_cast (rfl) hW) dL_draw_29
