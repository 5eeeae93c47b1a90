set_option maxHeartbeats 4000000 in
set_option maxRecDepth 100000 in
theorem c_X2_insertInOrder (l : Launch) (g : GG) (a : Nat → Nat) (v : SV) (t cn : Nat) (ht : t < 48) (hc : cn < 48) (ho : ∀ j, j < cn → ∃ u, u < 48 ∧ v.order j = nI u) : fz_C l g yX2_insertInOrder cX2_insertInOrder 4 none 0 0 [.ref (a 0), .int (nI t), .int (nI cn)] (SW g a v) (SW g a (v.orderS (insF v.worths t cn v.order))) none := by
  refine fz_C.of (by decide) (Nat.le_of_ble_eq_true rfl) ?_
  intro p e s m args below meth c A ls X hW hl
  have hx := X.1
  have hb := X.2.1
  have hl : lv_has ls 4 [(0, .ref (a 0)), (1, .int (nI t)), (2, .int (nI cn))] := hl
  have X : fz_X p s m meth c RX2 cX2_insertInOrder 4 none g A := X
  have hW : fz_W g A s (SW g a v) s.heap [] := hW
  refine lv_iload_n hx hb dX2_insertInOrder_0 rfl (lv_at hl 2 rfl) ?_
  refine lv_istore_n (lv' := [(3, .int (nI cn)), (0, .ref (a 0)), (1, .int (nI t)), (2, .int (nI cn))]) hx hb dX2_insertInOrder_1 rfl hl (by decide) rfl (fun ls hl => ?_)
  have loop2 : ∀ (k : Nat) (y : Nat) (o : Nat → Int32), y ≤ cn → y < k → (∀ j, j < y → ∃ u, u < 48 ∧ o j = nI u) → insF v.worths t cn v.order = insF v.worths t y o → ∀ (H : Heap) (locs : List Loc) (ls : Array Slot), fz_W g A s (SW g a (v.orderS o)) H locs → lv_has ls 4 [(0, .ref (a 0)), (1, .int (nI t)), (2, .int (nI cn)), (3, .int (nI y))] → W p l e (fz_R 0 0 0 0) s m args below meth c H locs 0 0 (MQ below (fz_Q g (SW g a (v.orderS (insF v.worths t cn v.order))) none A) args s 0 0 A) (F0 m 2 ls []) := by
    intro k
    induction k with
    | zero =>
      intro y o hp hk
      omega
    | succ k ih2 =>
      intro y o hp hk hoo he H locs ls hW hl
      refine lv_iload_n hx hb dX2_insertInOrder_2 rfl (lv_at hl 3 rfl) ?_
      refine lv_if_le (tgt := 48) hx hb dX2_insertInOrder_3 (by decide) (fun c3 => ?_) (fun c3 => ?_)
      · skip
        have h3 : y = 0 := by
          have := (nI_leI (a := y) (b := 0) (by omega) (by omega)).mp c3
          omega
        subst h3
        have hl : lv_has ls 4 [(0, .ref (a 0)), (1, .int (nI t)), (2, .int (nI cn)), (3, .int (nI 0))] := hl
        refine lv_aload_n hx hb dX2_insertInOrder_48 rfl (lv_at hl 0 rfl) ?_
        refine gf_X2_27 X hW 0 rfl rfl dX2_insertInOrder_49 ?_
        refine lv_iload_n hx hb dX2_insertInOrder_52 rfl (lv_at hl 3 rfl) ?_
        refine lv_iload_n hx hb dX2_insertInOrder_53 rfl (lv_at hl 1 rfl) ?_
        refine fz_is X hW 6 (0) rfl rfl (by omega) (by decide) dX2_insertInOrder_54 (fun H locs hW => ?_)
        exact fz_rv X (fz_cast (congrArg (fun z => SW g a (SV.orderS v z)) he.symm) hW) dX2_insertInOrder_55
      · skip
        obtain ⟨q, rfl⟩ : ∃ q, y = q + 1 := ⟨y - 1, by
          have h3 : ¬ y ≤ 0 := fun z => c3 ((nI_leI (a := y) (b := 0) (by omega) (by omega)).mpr z)
          omega⟩
        obtain ⟨u, hu1, hu2⟩ := hoo q (by omega)
        have hl : lv_has ls 4 [(0, .ref (a 0)), (1, .int (nI t)), (2, .int (nI cn)), (3, .int (nI (q + 1)))] := hl
        refine lv_aload_n hx hb dX2_insertInOrder_6 rfl (lv_at hl 0 rfl) ?_
        refine gf_X2_24 X hW 0 rfl rfl dX2_insertInOrder_7 ?_
        refine lv_aload_n hx hb dX2_insertInOrder_10 rfl (lv_at hl 0 rfl) ?_
        refine gf_X2_27 X hW 0 rfl rfl dX2_insertInOrder_11 ?_
        refine lv_iload_n hx hb dX2_insertInOrder_14 rfl (lv_at hl 3 rfl) ?_
        refine lv_iconst (v := 1) hx hb dX2_insertInOrder_15 (by decide) ?_
        refine lv_isub hx hb dX2_insertInOrder_16 ?_
        refine fz_il X hW 6 (q) rfl (by exact pk_sub (a := q + 1) (b := 1) (by omega)) (by omega) (by decide) dX2_insertInOrder_17 ?_
        refine fz_il X hW 5 (u) rfl hu2 hu1 (by decide) dX2_insertInOrder_18 ?_
        refine lv_aload_n hx hb dX2_insertInOrder_19 rfl (lv_at hl 0 rfl) ?_
        refine gf_X2_24 X hW 0 rfl rfl dX2_insertInOrder_20 ?_
        refine lv_iload_n hx hb dX2_insertInOrder_23 rfl (lv_at hl 1 rfl) ?_
        refine fz_il X hW 5 (t) rfl rfl (by omega) (by decide) dX2_insertInOrder_24 ?_
        refine lv_icmp_ge (tgt := 48) hx hb dX2_insertInOrder_25 (by decide) (fun c25 => ?_) (fun c25 => ?_)
        · skip
          have c25 : v.worths t ≤ v.worths u := c25
          refine lv_aload_n hx hb dX2_insertInOrder_48 rfl (lv_at hl 0 rfl) ?_
          refine gf_X2_27 X hW 0 rfl rfl dX2_insertInOrder_49 ?_
          refine lv_iload_n hx hb dX2_insertInOrder_52 rfl (lv_at hl 3 rfl) ?_
          refine lv_iload_n hx hb dX2_insertInOrder_53 rfl (lv_at hl 1 rfl) ?_
          refine fz_is X hW 6 ((q + 1)) rfl rfl (by omega) (by decide) dX2_insertInOrder_54 (fun H locs hW => ?_)
          exact fz_rv X (fz_cast (congrArg (fun z => SW g a (SV.orderS v z)) (show upd o (q + 1) (nI t) = insF v.worths t cn v.order by
            rw [he]
            show _ = (if v.worths (o q).toNatClampNeg < v.worths t then _ else _)
            rw [hu2, nI_clamp (by omega), if_neg (Int32.not_lt.mpr c25)])) hW) dX2_insertInOrder_55
        · skip
          have c25 : ¬ v.worths t ≤ v.worths u := c25
          refine lv_aload_n hx hb dX2_insertInOrder_28 rfl (lv_at hl 0 rfl) ?_
          refine gf_X2_27 X hW 0 rfl rfl dX2_insertInOrder_29 ?_
          refine lv_iload_n hx hb dX2_insertInOrder_32 rfl (lv_at hl 3 rfl) ?_
          refine lv_aload_n hx hb dX2_insertInOrder_33 rfl (lv_at hl 0 rfl) ?_
          refine gf_X2_27 X hW 0 rfl rfl dX2_insertInOrder_34 ?_
          refine lv_iload_n hx hb dX2_insertInOrder_37 rfl (lv_at hl 3 rfl) ?_
          refine lv_iconst (v := 1) hx hb dX2_insertInOrder_38 (by decide) ?_
          refine lv_isub hx hb dX2_insertInOrder_39 ?_
          refine fz_il X hW 6 (q) rfl (by exact pk_sub (a := q + 1) (b := 1) (by omega)) (by omega) (by decide) dX2_insertInOrder_40 ?_
          refine fz_is X hW 6 (q + 1) rfl rfl (by omega) (by decide) dX2_insertInOrder_41 (fun H locs hW => ?_)
          refine lv_iinc (v := nI q) (lv' := [(3, .int (nI q)), (0, .ref (a 0)), (1, .int (nI t)), (2, .int (nI cn))]) hx hb dX2_insertInOrder_42 hl (k := 3) rfl (pk_m1 q) (by decide) rfl (fun ls hl => ?_)
          refine lv_goto (tgt := 2) hx hb dX2_insertInOrder_45 (by decide) ?_
          exact ih2 q (upd o (q + 1) (o q)) (by omega) (by omega) (fun j hj => by rw [pk_un (show j ≠ q + 1 by omega)]; exact hoo j (by omega)) (by
            rw [he]
            show (if v.worths (o q).toNatClampNeg < v.worths t then _ else _) = _
            rw [hu2, nI_clamp (by omega), if_pos (Int32.not_le.mp c25)]) _ _ _ (fz_cast (rfl) hW) (lv_sub hl [1, 2, 3, 0] rfl)
  exact loop2 (cn + 1) cn v.order (Nat.le_refl _) (Nat.lt_succ_self _) ho rfl _ _ _ (fz_cast (rfl) hW) (lv_sub hl [1, 2, 3, 0] rfl)
set_option maxHeartbeats 4000000 in
set_option maxRecDepth 100000 in
theorem c_X2_putInOrder (l : Launch) (g : GG) (a : Nat → Nat) (v : SV) : fz_C l g yX2_putInOrder cX2_putInOrder 3 (some .int) 3 77 [.ref (a 0)] (SW g a v) (SW g a (piV v 48)) (some (.int (nI (piF v 48).1))) := by
  refine fz_C.of (by decide) (Nat.le_of_ble_eq_true rfl) ?_
  intro p e s m args below meth c A ls X hW hl
  have hx := X.1
  have hb := X.2.1
  have hl : lv_has ls 3 [(0, .ref (a 0))] := hl
  have X : fz_X p s m meth c RX2 cX2_putInOrder 3 (some .int) g A := X
  have hW : fz_W g A s (SW g a v) s.heap [] := hW
  refine lv_iconst (v := 0) hx hb dX2_putInOrder_0 (by decide) ?_
  refine lv_istore_n (lv' := [(1, .int 0), (0, .ref (a 0))]) hx hb dX2_putInOrder_1 rfl hl (by decide) rfl (fun ls hl => ?_)
  refine lv_iconst (v := 0) hx hb dX2_putInOrder_2 (by decide) ?_
  refine lv_istore_n (lv' := [(2, .int 0), (1, .int 0), (0, .ref (a 0))]) hx hb dX2_putInOrder_3 rfl hl (by decide) rfl (fun ls hl => ?_)
  have loop4 : ∀ (k : Nat) (t : Nat) (st : Nat × (Nat → Int32) × (Nat → Int32)), t ≤ 48 → 48 < t + k → st = piF v t → ∀ (H : Heap) (locs : List Loc) (ls : Array Slot), fz_W g A s (SW g a (poV v st.2.1 st.2.2)) H locs → lv_has ls 3 [(0, .ref (a 0)), (1, .int (nI st.1)), (2, .int (nI t))] → W p l e (fz_R 3 0 0 77) s m args below meth c H locs 0 0 (MQ below (fz_Q g (SW g a (piV v 48)) (some (.int (nI (piF v 48).1))) A) args s 0 0 A) (F0 m 4 ls []) := by
    intro k
    induction k with
    | zero =>
      intro t st ht hk
      omega
    | succ k ih4 =>
      intro t st ht hk hs H locs ls hW hl
      have hok := piF_ok v t ht
      rw [← hs] at hok
      refine lv_iload_n hx hb dX2_putInOrder_4 rfl (lv_at hl 2 rfl) ?_
      refine lv_bipush (v := 48) hx hb dX2_putInOrder_5 (by decide) ?_
      refine lv_icmp_ge (tgt := 46) hx hb dX2_putInOrder_7 (by decide) (fun c7 => ?_) (fun c7 => ?_)
      · skip
        have h7 : 48 ≤ t := (nI_leI (a := 48) (b := t) (by omega) (by omega)).mp c7
        have e7 : t = 48 := by omega
        have hl := lv_sub hl [0, 1] rfl
        have hl : lv_has ls 3 [(0, .ref (a 0)), (1, .int (nI st.1))] := hl
        refine lv_iload_n hx hb dX2_putInOrder_46 rfl (lv_at hl 1 rfl) ?_
        exact fz_ri X (fz_cast (by rw [hs, e7]; rfl) hW) (by rw [hs, e7]) dX2_putInOrder_47
      · skip
        have h7 : t < 48 := Nat.not_le.mp (fun z => c7 ((nI_leI (a := 48) (b := t) (by omega) (by omega)).mpr z))
        refine lv_aload_n hx hb dX2_putInOrder_10 rfl (lv_at hl 0 rfl) ?_
        refine gf_X2_18 X hW 0 rfl rfl dX2_putInOrder_11 ?_
        refine lv_iload_n hx hb dX2_putInOrder_14 rfl (lv_at hl 2 rfl) ?_
        refine fz_il X hW 3 (t) rfl rfl (by omega) (by decide) dX2_putInOrder_15 ?_
        refine lv_iconst (v := (-1)) hx hb dX2_putInOrder_16 (by decide) ?_
        refine lv_icmp_eq (tgt := 40) hx hb dX2_putInOrder_17 (by decide) (fun c17 => ?_) (fun c17 => ?_)
        · skip
          refine lv_iinc (v := nI (t + 1)) (lv' := [(2, .int (nI (t + 1))), (0, .ref (a 0)), (1, .int (nI st.1))]) hx hb dX2_putInOrder_40 hl (k := 2) rfl (nI_1 _) (by decide) rfl (fun ls hl => ?_)
          refine lv_goto (tgt := 4) hx hb dX2_putInOrder_43 (by decide) ?_
          exact ih4 (t + 1) st (by omega) (by omega) (by rw [hs]; exact (if_pos c17).symm) _ _ _ (fz_cast (rfl) hW) (lv_sub hl [1, 2, 0] rfl)
        · skip
          refine lv_aload_n hx hb dX2_putInOrder_20 rfl (lv_at hl 0 rfl) ?_
          refine gf_X2_24 X hW 0 rfl rfl dX2_putInOrder_21 ?_
          refine lv_iload_n hx hb dX2_putInOrder_24 rfl (lv_at hl 2 rfl) ?_
          refine lv_aload_n hx hb dX2_putInOrder_25 rfl (lv_at hl 0 rfl) ?_
          refine lv_iload_n hx hb dX2_putInOrder_26 rfl (lv_at hl 2 rfl) ?_
          refine fz_cVi X hW (c_X2_worthOf l g a (poV v st.2.1 st.2.2) t (by omega)) lk_X2_132 (ci := 2) (q0 := 0) rfl rfl rfl rfl ⟨Nat.le_of_ble_eq_true rfl, Nat.le_of_ble_eq_true rfl⟩ hl rfl (Nat.le_of_ble_eq_true rfl) dX2_putInOrder_27 ⟨Nat.le_refl _, Nat.le_refl _⟩ (fun H locs hW => ?_)
          refine fz_is X hW 5 (t) rfl rfl (by omega) (by decide) dX2_putInOrder_30 (fun H locs hW => ?_)
          refine lv_aload_n hx hb dX2_putInOrder_31 rfl (lv_at hl 0 rfl) ?_
          refine lv_iload_n hx hb dX2_putInOrder_32 rfl (lv_at hl 2 rfl) ?_
          refine lv_iload_n hx hb dX2_putInOrder_33 rfl (lv_at hl 1 rfl) ?_
          refine fz_cVv X hW (c_X2_insertInOrder l g a (poV v (upd st.2.1 t (woI v t)) st.2.2) t st.1 (by omega) (by omega) (fun j hj => hok.2 j hj)) lk_X2_135 (ci := 2) (q0 := 0) rfl rfl rfl rfl ⟨Nat.le_of_ble_eq_true rfl, Nat.le_of_ble_eq_true rfl⟩ hl rfl (Nat.le_of_ble_eq_true rfl) dX2_putInOrder_34 ⟨Nat.le_refl _, Nat.le_refl _⟩ (fun H locs hW => ?_)
          refine lv_iinc (v := nI (st.1 + 1)) (lv' := [(1, .int (nI (st.1 + 1))), (0, .ref (a 0)), (2, .int (nI t))]) hx hb dX2_putInOrder_37 hl (k := 1) rfl (nI_1 _) (by decide) rfl (fun ls hl => ?_)
          refine lv_iinc (v := nI (t + 1)) (lv' := [(2, .int (nI (t + 1))), (1, .int (nI (st.1 + 1))), (0, .ref (a 0))]) hx hb dX2_putInOrder_40 hl (k := 2) rfl (nI_1 _) (by decide) rfl (fun ls hl => ?_)
          refine lv_goto (tgt := 4) hx hb dX2_putInOrder_43 (by decide) ?_
          exact ih4 (t + 1) (st.1 + 1, upd st.2.1 t (woI v t), insF (upd st.2.1 t (woI v t)) t st.1 st.2.2) (by omega) (by omega) (by rw [hs]; exact (if_neg c17).symm) _ _ _ (fz_cast (rfl) hW) (lv_sub hl [2, 1, 0] rfl)
  exact loop4 49 0 (0, v.worths, v.order) (by omega) (by omega) rfl _ _ _ (fz_cast (rfl) hW) (lv_sub hl [2, 1, 0] rfl)
