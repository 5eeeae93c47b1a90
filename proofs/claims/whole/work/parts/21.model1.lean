theorem okT_in {x y : Int32} : okT x y ↔ inI x 0 7 ∧ inI y 0 5 := by
  unfold okT inI
  simp only [Int32.lt_iff_toInt_lt, Int32.le_iff_toInt_le, show (0 : Int32).toInt = 0 from rfl, show (8 : Int32).toInt = 8 from rfl, show (7 : Int32).toInt = 7 from rfl, show (6 : Int32).toInt = 6 from rfl, show (5 : Int32).toInt = 5 from rfl]
  omega
theorem okB_in {x y w h : Int32} : okB x y w h ↔ okT x y ∧ inI w 1 (8 - x) ∧ inI h 1 (6 - y) := by
  unfold okB inI
  simp only [Int32.not_lt]
  constructor
  · intro h; exact ⟨h.1, ⟨h.2.1, h.2.2.1⟩, h.2.2.2.1, h.2.2.2.2⟩
  · intro h; exact ⟨h.1, h.2.1.1, h.2.1.2, h.2.2.1, h.2.2.2⟩
theorem okG_in {b : Int32} : okG b ↔ inI b 0 300 := by
  unfold okG inI
  rw [Int32.not_lt]
theorem okP_in {b : Int32} : okP b ↔ inI b 0 255 := by
  unfold okP inI
  rw [Int32.not_lt]
theorem b01_1 {c : Prop} [Decidable c] (h : ¬ b01 c = 0) : c := by
  rcases Classical.em c with k | k
  · exact k
  · exact absurd (b01_0.mpr k) h
theorem b01_t {c : Prop} [Decidable c] (h : c) : b01 c = 1 := if_pos h
theorem b01_f {c : Prop} [Decidable c] (h : ¬ c) : b01 c = 0 := if_neg h
theorem b01_e {c d : Prop} [Decidable c] [Decidable d] (h : c ↔ d) : b01 c = b01 d := by
  unfold b01
  by_cases k : c
  · rw [if_pos k, if_pos (h.mp k)]
  · rw [if_neg k, if_neg (fun z => k (h.mpr z))]
theorem nI_div (a b : Nat) (ha : a < 2 ^ 31) (hb : 0 < b) (hb2 : b < 2 ^ 31) : nI a / nI b = nI (a / b) := pk_div ha hb hb2
theorem nI_ne (b : Nat) (hb : 0 < b) (hb2 : b < 2 ^ 31) : ¬ nI b = 0 := nI_ne0 hb hb2
set_option maxHeartbeats 4000000 in
set_option maxRecDepth 100000 in
theorem c_X4_thrown (l : Launch) (g : GG) (o : Nat → Nat) (m0 : MV) : fz_C l g yX4_thrown cX4_thrown 1 (some .int) 0 0 [.ref (o 0)] (MW g o m0) (MW g o m0) (some (.int m0.thr)) := by
  refine fz_C.of (by decide) (Nat.le_of_ble_eq_true rfl) ?_
  intro p e s m args below meth c A ls X hW hl
  have hx := X.1
  have hb := X.2.1
  have hl : lv_has ls 1 [(0, .ref (o 0))] := hl
  have X : fz_X p s m meth c RX4 cX4_thrown 1 (some .int) g A := X
  have hW : fz_W g A s (MW g o m0) s.heap [] := hW
  refine lv_aload_n hx hb dX4_thrown_0 rfl (lv_at hl 0 rfl) ?_
  refine gf_X4_53 X hW 0 rfl rfl dX4_thrown_1 ?_
  exact fz_ri X (fz_cast (rfl) hW) (rfl) dX4_thrown_4
set_option maxHeartbeats 4000000 in
set_option maxRecDepth 100000 in
theorem c_X4_isIn (l : Launch) (g : GG) (x lo hi : Int32) (ws : va_W) : fz_C l g yX4_isIn cX4_isIn 3 (some .boolean) 0 0 [.int x, .int lo, .int hi] (ws) (ws) (some (.int (b01 (inI x lo hi)))) := by
  refine fz_C.of (by decide) (Nat.le_of_ble_eq_true rfl) ?_
  intro p e s m args below meth c A ls X hW hl
  have hx := X.1
  have hb := X.2.1
  have hl : lv_has ls 3 [(0, .int x), (1, .int lo), (2, .int hi)] := hl
  have X : fz_X p s m meth c RX4 cX4_isIn 3 (some .boolean) g A := X
  have hW : fz_W g A s (ws) s.heap [] := hW
  refine lv_iload_n hx hb dX4_isIn_0 rfl (lv_at hl 0 rfl) ?_
  refine lv_iload_n hx hb dX4_isIn_1 rfl (lv_at hl 1 rfl) ?_
  refine lv_icmp_lt (tgt := 14) hx hb dX4_isIn_2 (by decide) (fun c2 => ?_) (fun c2 => ?_)
  · skip
    refine lv_iconst (v := 0) hx hb dX4_isIn_14 (by decide) ?_
    exact fz_rz X (fz_cast (rfl) hW) (by first | exact (b01_f (fun z => absurd c2 (Int32.not_lt.mpr z.1))).symm | exact (b01_f (fun z => absurd c7 (Int32.not_lt.mpr z.2))).symm | exact (b01_t ⟨Int32.not_lt.mp c2, Int32.not_lt.mp c7⟩).symm) (fz_01 (b01_01 _)) dX4_isIn_15
  · skip
    refine lv_iload_n hx hb dX4_isIn_5 rfl (lv_at hl 0 rfl) ?_
    refine lv_iload_n hx hb dX4_isIn_6 rfl (lv_at hl 2 rfl) ?_
    refine lv_icmp_gt (tgt := 14) hx hb dX4_isIn_7 (by decide) (fun c7 => ?_) (fun c7 => ?_)
    · skip
      refine lv_iconst (v := 0) hx hb dX4_isIn_14 (by decide) ?_
      exact fz_rz X (fz_cast (rfl) hW) (by first | exact (b01_f (fun z => absurd c2 (Int32.not_lt.mpr z.1))).symm | exact (b01_f (fun z => absurd c7 (Int32.not_lt.mpr z.2))).symm | exact (b01_t ⟨Int32.not_lt.mp c2, Int32.not_lt.mp c7⟩).symm) (fz_01 (b01_01 _)) dX4_isIn_15
    · skip
      refine lv_iconst (v := 1) hx hb dX4_isIn_10 (by decide) ?_
      refine lv_goto (tgt := 15) hx hb dX4_isIn_11 (by decide) ?_
      exact fz_rz X (fz_cast (rfl) hW) (by first | exact (b01_f (fun z => absurd c2 (Int32.not_lt.mpr z.1))).symm | exact (b01_f (fun z => absurd c7 (Int32.not_lt.mpr z.2))).symm | exact (b01_t ⟨Int32.not_lt.mp c2, Int32.not_lt.mp c7⟩).symm) (fz_01 (b01_01 _)) dX4_isIn_15
set_option maxHeartbeats 4000000 in
set_option maxRecDepth 100000 in
theorem c_X4_isTile (l : Launch) (g : GG) (x y : Int32) (ws : va_W) : fz_C l g yX4_isTile cX4_isTile 2 (some .boolean) 1 22 [.int x, .int y] (ws) (ws) (some (.int (b01 (okT x y)))) := by
  refine fz_C.of (by decide) (Nat.le_of_ble_eq_true rfl) ?_
  intro p e s m args below meth c A ls X hW hl
  have hx := X.1
  have hb := X.2.1
  have hl : lv_has ls 2 [(0, .int x), (1, .int y)] := hl
  have X : fz_X p s m meth c RX4 cX4_isTile 2 (some .boolean) g A := X
  have hW : fz_W g A s (ws) s.heap [] := hW
  refine lv_iload_n hx hb dX4_isTile_0 rfl (lv_at hl 0 rfl) ?_
  refine lv_iconst (v := 0) hx hb dX4_isTile_1 (by decide) ?_
  refine lv_bipush (v := 7) hx hb dX4_isTile_2 (by decide) ?_
  refine fz_cSi X hW (c_X4_isIn l g x 0 7 _) lk_X4_57 rfl ⟨Nat.le_of_ble_eq_true rfl, Nat.le_of_ble_eq_true rfl⟩ hl rfl (Nat.le_of_ble_eq_true rfl) dX4_isTile_4 ⟨Nat.le_refl _, Nat.le_refl _⟩ (fun H locs hW => ?_)
  refine lv_if_eq (tgt := 23) hx hb dX4_isTile_7 (by decide) (fun c7 => ?_) (fun c7 => ?_)
  · skip
    refine lv_iconst (v := 0) hx hb dX4_isTile_23 (by decide) ?_
    exact fz_rz X (fz_cast (rfl) hW) (by first | exact (b01_f (fun z => b01_0.mp c7 (okT_in.mp z).1)).symm | exact (b01_f (fun z => b01_0.mp c16 (okT_in.mp z).2)).symm | exact (b01_t (okT_in.mpr ⟨b01_1 c7, b01_1 c16⟩)).symm) (fz_01 (b01_01 _)) dX4_isTile_24
  · skip
    refine lv_iload_n hx hb dX4_isTile_10 rfl (lv_at hl 1 rfl) ?_
    refine lv_iconst (v := 0) hx hb dX4_isTile_11 (by decide) ?_
    refine lv_iconst (v := 5) hx hb dX4_isTile_12 (by decide) ?_
    refine fz_cSi X hW (c_X4_isIn l g y 0 5 _) lk_X4_57 rfl ⟨Nat.le_of_ble_eq_true rfl, Nat.le_of_ble_eq_true rfl⟩ hl rfl (Nat.le_of_ble_eq_true rfl) dX4_isTile_13 ⟨Nat.le_refl _, Nat.le_refl _⟩ (fun H locs hW => ?_)
    refine lv_if_eq (tgt := 23) hx hb dX4_isTile_16 (by decide) (fun c16 => ?_) (fun c16 => ?_)
    · skip
      refine lv_iconst (v := 0) hx hb dX4_isTile_23 (by decide) ?_
      exact fz_rz X (fz_cast (rfl) hW) (by first | exact (b01_f (fun z => b01_0.mp c7 (okT_in.mp z).1)).symm | exact (b01_f (fun z => b01_0.mp c16 (okT_in.mp z).2)).symm | exact (b01_t (okT_in.mpr ⟨b01_1 c7, b01_1 c16⟩)).symm) (fz_01 (b01_01 _)) dX4_isTile_24
    · skip
      refine lv_iconst (v := 1) hx hb dX4_isTile_19 (by decide) ?_
      refine lv_goto (tgt := 24) hx hb dX4_isTile_20 (by decide) ?_
      exact fz_rz X (fz_cast (rfl) hW) (by first | exact (b01_f (fun z => b01_0.mp c7 (okT_in.mp z).1)).symm | exact (b01_f (fun z => b01_0.mp c16 (okT_in.mp z).2)).symm | exact (b01_t (okT_in.mpr ⟨b01_1 c7, b01_1 c16⟩)).symm) (fz_01 (b01_01 _)) dX4_isTile_24
set_option maxHeartbeats 4000000 in
set_option maxRecDepth 100000 in
theorem c_X4_isBlock (l : Launch) (g : GG) (x y w h : Int32) (ws : va_W) : fz_C l g yX4_isBlock cX4_isBlock 4 (some .boolean) 2 43 [.int x, .int y, .int w, .int h] (ws) (ws) (some (.int (b01 (okB x y w h)))) := by
  refine fz_C.of (by decide) (Nat.le_of_ble_eq_true rfl) ?_
  intro p e s m args below meth c A ls X hW hl
  have hx := X.1
  have hb := X.2.1
  have hl : lv_has ls 4 [(0, .int x), (1, .int y), (2, .int w), (3, .int h)] := hl
  have X : fz_X p s m meth c RX4 cX4_isBlock 4 (some .boolean) g A := X
  have hW : fz_W g A s (ws) s.heap [] := hW
  refine lv_iload_n hx hb dX4_isBlock_0 rfl (lv_at hl 0 rfl) ?_
  refine lv_iload_n hx hb dX4_isBlock_1 rfl (lv_at hl 1 rfl) ?_
  refine fz_cSi X hW (c_X4_isTile l g x y _) lk_X4_61 rfl ⟨Nat.le_of_ble_eq_true rfl, Nat.le_of_ble_eq_true rfl⟩ hl rfl (Nat.le_of_ble_eq_true rfl) dX4_isBlock_2 ⟨Nat.le_refl _, Nat.le_refl _⟩ (fun H locs hW => ?_)
  refine lv_if_eq (tgt := 36) hx hb dX4_isBlock_5 (by decide) (fun c5 => ?_) (fun c5 => ?_)
  · skip
    refine lv_iconst (v := 0) hx hb dX4_isBlock_36 (by decide) ?_
    exact fz_rz X (fz_cast (rfl) hW) (by first | exact (b01_f (fun z => b01_0.mp c5 (okB_in.mp z).1)).symm | exact (b01_f (fun z => b01_0.mp c17 (okB_in.mp z).2.1)).symm | exact (b01_f (fun z => b01_0.mp c29 (okB_in.mp z).2.2)).symm | exact (b01_t (okB_in.mpr ⟨b01_1 c5, b01_1 c17, b01_1 c29⟩)).symm) (fz_01 (b01_01 _)) dX4_isBlock_37
  · skip
    refine lv_iload_n hx hb dX4_isBlock_8 rfl (lv_at hl 2 rfl) ?_
    refine lv_iconst (v := 1) hx hb dX4_isBlock_9 (by decide) ?_
    refine lv_bipush (v := 8) hx hb dX4_isBlock_10 (by decide) ?_
    refine lv_iload_n hx hb dX4_isBlock_12 rfl (lv_at hl 0 rfl) ?_
    refine lv_isub hx hb dX4_isBlock_13 ?_
    refine fz_cSi X hW (c_X4_isIn l g w 1 (8 - x) _) lk_X4_57 rfl ⟨Nat.le_of_ble_eq_true rfl, Nat.le_of_ble_eq_true rfl⟩ hl rfl (Nat.le_of_ble_eq_true rfl) dX4_isBlock_14 ⟨Nat.le_refl _, Nat.le_refl _⟩ (fun H locs hW => ?_)
    refine lv_if_eq (tgt := 36) hx hb dX4_isBlock_17 (by decide) (fun c17 => ?_) (fun c17 => ?_)
    · skip
      refine lv_iconst (v := 0) hx hb dX4_isBlock_36 (by decide) ?_
      exact fz_rz X (fz_cast (rfl) hW) (by first | exact (b01_f (fun z => b01_0.mp c5 (okB_in.mp z).1)).symm | exact (b01_f (fun z => b01_0.mp c17 (okB_in.mp z).2.1)).symm | exact (b01_f (fun z => b01_0.mp c29 (okB_in.mp z).2.2)).symm | exact (b01_t (okB_in.mpr ⟨b01_1 c5, b01_1 c17, b01_1 c29⟩)).symm) (fz_01 (b01_01 _)) dX4_isBlock_37
    · skip
      refine lv_iload_n hx hb dX4_isBlock_20 rfl (lv_at hl 3 rfl) ?_
      refine lv_iconst (v := 1) hx hb dX4_isBlock_21 (by decide) ?_
      refine lv_bipush (v := 6) hx hb dX4_isBlock_22 (by decide) ?_
      refine lv_iload_n hx hb dX4_isBlock_24 rfl (lv_at hl 1 rfl) ?_
      refine lv_isub hx hb dX4_isBlock_25 ?_
      refine fz_cSi X hW (c_X4_isIn l g h 1 (6 - y) _) lk_X4_57 rfl ⟨Nat.le_of_ble_eq_true rfl, Nat.le_of_ble_eq_true rfl⟩ hl rfl (Nat.le_of_ble_eq_true rfl) dX4_isBlock_26 ⟨Nat.le_refl _, Nat.le_refl _⟩ (fun H locs hW => ?_)
      refine lv_if_eq (tgt := 36) hx hb dX4_isBlock_29 (by decide) (fun c29 => ?_) (fun c29 => ?_)
      · skip
        refine lv_iconst (v := 0) hx hb dX4_isBlock_36 (by decide) ?_
        exact fz_rz X (fz_cast (rfl) hW) (by first | exact (b01_f (fun z => b01_0.mp c5 (okB_in.mp z).1)).symm | exact (b01_f (fun z => b01_0.mp c17 (okB_in.mp z).2.1)).symm | exact (b01_f (fun z => b01_0.mp c29 (okB_in.mp z).2.2)).symm | exact (b01_t (okB_in.mpr ⟨b01_1 c5, b01_1 c17, b01_1 c29⟩)).symm) (fz_01 (b01_01 _)) dX4_isBlock_37
      · skip
        refine lv_iconst (v := 1) hx hb dX4_isBlock_32 (by decide) ?_
        refine lv_goto (tgt := 37) hx hb dX4_isBlock_33 (by decide) ?_
        exact fz_rz X (fz_cast (rfl) hW) (by first | exact (b01_f (fun z => b01_0.mp c5 (okB_in.mp z).1)).symm | exact (b01_f (fun z => b01_0.mp c17 (okB_in.mp z).2.1)).symm | exact (b01_f (fun z => b01_0.mp c29 (okB_in.mp z).2.2)).symm | exact (b01_t (okB_in.mpr ⟨b01_1 c5, b01_1 c17, b01_1 c29⟩)).symm) (fz_01 (b01_01 _)) dX4_isBlock_37
set_option maxHeartbeats 4000000 in
set_option maxRecDepth 100000 in
theorem c_X4_compares (l : Launch) (g : GG) (o : Nat → Nat) (m0 : MV) (t : Nat) (ht : t < 48) : fz_C l g yX4_compares cX4_compares 3 none 0 0 [.ref (o 0), .int (nI t)] (MW g o m0) (MW g o (mcV m0 t)) none := by
  refine fz_C.of (by decide) (Nat.le_of_ble_eq_true rfl) ?_
  intro p e s m args below meth c A ls X hW hl
  have hx := X.1
  have hb := X.2.1
  have hl : lv_has ls 3 [(0, .ref (o 0)), (1, .int (nI t))] := hl
  have X : fz_X p s m meth c RX4 cX4_compares 3 none g A := X
  have hW : fz_W g A s (MW g o m0) s.heap [] := hW
  refine lv_aload_n hx hb dX4_compares_0 rfl (lv_at hl 0 rfl) ?_
  refine gf_X4_13 X hW 0 rfl rfl dX4_compares_1 ?_
  refine lv_iload_n hx hb dX4_compares_4 rfl (lv_at hl 1 rfl) ?_
  refine fz_il X hW 2 (t) rfl rfl (by omega) (by decide) dX4_compares_5 ?_
  refine lv_aload_n hx hb dX4_compares_6 rfl (lv_at hl 0 rfl) ?_
  refine gf_X4_7 X hW 0 rfl rfl dX4_compares_7 ?_
  refine lv_iload_n hx hb dX4_compares_10 rfl (lv_at hl 1 rfl) ?_
  refine fz_il X hW 1 (t) rfl rfl (by omega) (by decide) dX4_compares_11 ?_
  refine lv_icmp_eq (tgt := 19) hx hb dX4_compares_12 (by decide) (fun c12 => ?_) (fun c12 => ?_)
  · skip
    have c12 : m0.far t = m0.near t := c12
    refine lv_iconst (v := 0) hx hb dX4_compares_19 (by decide) ?_
    refine lv_istore_n (lv' := [(2, .int 0), (0, .ref (o 0)), (1, .int (nI t))]) hx hb dX4_compares_20 rfl hl (by decide) rfl (fun ls hl => ?_)
    refine lv_aload_n hx hb dX4_compares_21 rfl (lv_at hl 1 rfl) ?_
    refine gf_X4_16 X hW 0 rfl rfl dX4_compares_22 ?_
    refine lv_iload_n hx hb dX4_compares_25 rfl (lv_at hl 2 rfl) ?_
    refine lv_iload_n hx hb dX4_compares_26 rfl (lv_at hl 0 rfl) ?_
    refine lv_if_ne (tgt := 34) hx hb dX4_compares_27 (by decide) (fun c27 => ?_) (fun c27 => ?_)
    · first | exact absurd c27 (by decide) | exact absurd (by decide) c27
    · skip
      refine lv_iconst (v := (-1)) hx hb dX4_compares_30 (by decide) ?_
      refine lv_goto (tgt := 57) hx hb dX4_compares_31 (by decide) ?_
      refine fz_is X hW 3 (t) rfl rfl (by omega) (by decide) dX4_compares_57 (fun H locs hW => ?_)
      exact fz_rv X (fz_cast (congrArg (fun z => MW g o (m0.sinceS (upd m0.since t z))) (if_pos c12).symm) hW) dX4_compares_58
  · skip
    have c12 : ¬ m0.far t = m0.near t := c12
    refine lv_iconst (v := 1) hx hb dX4_compares_15 (by decide) ?_
    refine lv_goto (tgt := 20) hx hb dX4_compares_16 (by decide) ?_
    refine lv_istore_n (lv' := [(2, .int 1), (0, .ref (o 0)), (1, .int (nI t))]) hx hb dX4_compares_20 rfl hl (by decide) rfl (fun ls hl => ?_)
    refine lv_aload_n hx hb dX4_compares_21 rfl (lv_at hl 1 rfl) ?_
    refine gf_X4_16 X hW 0 rfl rfl dX4_compares_22 ?_
    refine lv_iload_n hx hb dX4_compares_25 rfl (lv_at hl 2 rfl) ?_
    refine lv_iload_n hx hb dX4_compares_26 rfl (lv_at hl 0 rfl) ?_
    refine lv_if_ne (tgt := 34) hx hb dX4_compares_27 (by decide) (fun c27 => ?_) (fun c27 => ?_)
    · skip
      refine lv_aload_n hx hb dX4_compares_34 rfl (lv_at hl 1 rfl) ?_
      refine gf_X4_16 X hW 0 rfl rfl dX4_compares_35 ?_
      refine lv_iload_n hx hb dX4_compares_38 rfl (lv_at hl 2 rfl) ?_
      refine fz_il X hW 3 (t) rfl rfl (by omega) (by decide) dX4_compares_39 ?_
      refine lv_iconst (v := (-1)) hx hb dX4_compares_40 (by decide) ?_
      refine lv_icmp_ne (tgt := 51) hx hb dX4_compares_41 (by decide) (fun c41 => ?_) (fun c41 => ?_)
      · skip
        have c41 : ¬ m0.since t = -1 := c41
        refine lv_aload_n hx hb dX4_compares_51 rfl (lv_at hl 1 rfl) ?_
        refine gf_X4_16 X hW 0 rfl rfl dX4_compares_52 ?_
        refine lv_iload_n hx hb dX4_compares_55 rfl (lv_at hl 2 rfl) ?_
        refine fz_il X hW 3 (t) rfl rfl (by omega) (by decide) dX4_compares_56 ?_
        refine fz_is X hW 3 (t) rfl rfl (by omega) (by decide) dX4_compares_57 (fun H locs hW => ?_)
        exact fz_rv X (fz_cast (congrArg (fun z => MW g o (m0.sinceS (upd m0.since t z))) ((if_neg c12).trans (if_neg c41)).symm) hW) dX4_compares_58
      · skip
        have c41 : m0.since t = -1 := c41
        refine lv_aload_n hx hb dX4_compares_44 rfl (lv_at hl 1 rfl) ?_
        refine gf_X4_65 X hW 0 rfl rfl dX4_compares_45 ?_
        refine lv_goto (tgt := 57) hx hb dX4_compares_48 (by decide) ?_
        refine fz_is X hW 3 (t) rfl rfl (by omega) (by decide) dX4_compares_57 (fun H locs hW => ?_)
        exact fz_rv X (fz_cast (congrArg (fun z => MW g o (m0.sinceS (upd m0.since t z))) ((if_neg c12).trans (if_pos c41)).symm) hW) dX4_compares_58
    · first | exact absurd c27 (by decide) | exact absurd (by decide) c27
set_option maxHeartbeats 4000000 in
set_option maxRecDepth 100000 in
theorem c_X4_unlikeTiles (l : Launch) (g : GG) (o : Nat → Nat) (m0 : MV) : fz_C l g yX4_unlikeTiles cX4_unlikeTiles 3 (some .int) 0 0 [.ref (o 0)] (MW g o m0) (MW g o m0) (some (.int (muF m0 48))) := by
  refine fz_C.of (by decide) (Nat.le_of_ble_eq_true rfl) ?_
  intro p e s m args below meth c A ls X hW hl
  have hx := X.1
  have hb := X.2.1
  have hl : lv_has ls 3 [(0, .ref (o 0))] := hl
  have X : fz_X p s m meth c RX4 cX4_unlikeTiles 3 (some .int) g A := X
  have hW : fz_W g A s (MW g o m0) s.heap [] := hW
  refine lv_iconst (v := 0) hx hb dX4_unlikeTiles_0 (by decide) ?_
  refine lv_istore_n (lv' := [(1, .int 0), (0, .ref (o 0))]) hx hb dX4_unlikeTiles_1 rfl hl (by decide) rfl (fun ls hl => ?_)
  refine lv_iconst (v := 0) hx hb dX4_unlikeTiles_2 (by decide) ?_
  refine lv_istore_n (lv' := [(2, .int 0), (1, .int 0), (0, .ref (o 0))]) hx hb dX4_unlikeTiles_3 rfl hl (by decide) rfl (fun ls hl => ?_)
  have loop4 : ∀ (k : Nat) (t : Nat) (z : Int32), t ≤ 48 → 48 < t + k → z = muF m0 t → ∀ (H : Heap) (locs : List Loc) (ls : Array Slot), fz_W g A s (MW g o m0) H locs → lv_has ls 3 [(0, .ref (o 0)), (1, .int z), (2, .int (nI t))] → W p l e (fz_R 0 0 0 0) s m args below meth c H locs 0 0 (MQ below (fz_Q g (MW g o m0) (some (.int (muF m0 48))) A) args s 0 0 A) (F0 m 4 ls []) := by
    intro k
    induction k with
    | zero =>
      intro t z ht hk
      omega
    | succ k ih4 =>
      intro t z ht hk hz H locs ls hW hl
      refine lv_iload_n hx hb dX4_unlikeTiles_4 rfl (lv_at hl 2 rfl) ?_
      refine lv_bipush (v := 48) hx hb dX4_unlikeTiles_5 (by decide) ?_
      refine lv_icmp_ge (tgt := 34) hx hb dX4_unlikeTiles_7 (by decide) (fun c7 => ?_) (fun c7 => ?_)
      · skip
        have h7 : 48 ≤ t := (nI_leI (a := 48) (b := t) (by omega) (by omega)).mp c7
        have e7 : t = 48 := by omega
        have hl := lv_sub hl [0, 1] rfl
        have hl : lv_has ls 3 [(0, .ref (o 0)), (1, .int z)] := hl
        refine lv_iload_n hx hb dX4_unlikeTiles_34 rfl (lv_at hl 1 rfl) ?_
        exact fz_ri X (fz_cast (rfl) hW) (by rw [hz, e7]) dX4_unlikeTiles_35
      · skip
        have h7 : t < 48 := Nat.not_le.mp (fun z => c7 ((nI_leI (a := 48) (b := t) (by omega) (by omega)).mpr z))
        refine lv_iload_n hx hb dX4_unlikeTiles_10 rfl (lv_at hl 1 rfl) ?_
        refine lv_aload_n hx hb dX4_unlikeTiles_11 rfl (lv_at hl 0 rfl) ?_
        refine gf_X4_16 X hW 0 rfl rfl dX4_unlikeTiles_12 ?_
        refine lv_iload_n hx hb dX4_unlikeTiles_15 rfl (lv_at hl 2 rfl) ?_
        refine fz_il X hW 3 (t) rfl rfl (by omega) (by decide) dX4_unlikeTiles_16 ?_
        refine lv_iconst (v := (-1)) hx hb dX4_unlikeTiles_17 (by decide) ?_
        refine lv_icmp_ne (tgt := 25) hx hb dX4_unlikeTiles_18 (by decide) (fun c18 => ?_) (fun c18 => ?_)
        · skip
          have c18 : ¬ m0.since t = -1 := c18
          refine lv_iconst (v := 1) hx hb dX4_unlikeTiles_25 (by decide) ?_
          refine lv_iadd hx hb dX4_unlikeTiles_26 ?_
          refine lv_istore_n (lv' := [(1, .int (z + 1)), (0, .ref (o 0)), (2, .int (nI t))]) hx hb dX4_unlikeTiles_27 rfl hl (by decide) rfl (fun ls hl => ?_)
          refine lv_iinc (v := nI (t + 1)) (lv' := [(2, .int (nI (t + 1))), (1, .int (z + 1)), (0, .ref (o 0))]) hx hb dX4_unlikeTiles_28 hl (k := 2) rfl (nI_1 _) (by decide) rfl (fun ls hl => ?_)
          refine lv_goto (tgt := 4) hx hb dX4_unlikeTiles_31 (by decide) ?_
          exact ih4 (t + 1) _ (by omega) (by omega) (by show z + 1 = muF m0 t + (if m0.since t = -1 then 0 else 1); rw [hz, if_neg c18]) _ _ _ (fz_cast (rfl) hW) (lv_sub hl [2, 1, 0] rfl)
        · skip
          have c18 : m0.since t = -1 := c18
          refine lv_iconst (v := 0) hx hb dX4_unlikeTiles_21 (by decide) ?_
          refine lv_goto (tgt := 26) hx hb dX4_unlikeTiles_22 (by decide) ?_
          refine lv_iadd hx hb dX4_unlikeTiles_26 ?_
          refine lv_istore_n (lv' := [(1, .int (z + 0)), (0, .ref (o 0)), (2, .int (nI t))]) hx hb dX4_unlikeTiles_27 rfl hl (by decide) rfl (fun ls hl => ?_)
          refine lv_iinc (v := nI (t + 1)) (lv' := [(2, .int (nI (t + 1))), (1, .int (z + 0)), (0, .ref (o 0))]) hx hb dX4_unlikeTiles_28 hl (k := 2) rfl (nI_1 _) (by decide) rfl (fun ls hl => ?_)
          refine lv_goto (tgt := 4) hx hb dX4_unlikeTiles_31 (by decide) ?_
          exact ih4 (t + 1) _ (by omega) (by omega) (by show z + 0 = muF m0 t + (if m0.since t = -1 then 0 else 1); rw [hz, if_pos c18]) _ _ _ (fz_cast (rfl) hW) (lv_sub hl [2, 1, 0] rfl)
  exact loop4 49 0 0 (by omega) (by omega) rfl _ _ _ (fz_cast (rfl) hW) (lv_sub hl [2, 1, 0] rfl)
set_option maxHeartbeats 4000000 in
set_option maxRecDepth 100000 in
theorem c_X4_draws (l : Launch) (g : GG) (o : Nat → Nat) (m0 : MV) (t : Nat) (q : Int32) (ht : t < 48) : fz_C l g yX4_draws cX4_draws 3 none 1 22 [.ref (o 0), .int (nI t), .int q] (MW g o m0) (MW g o (mdV m0 t q)) none := by
  refine fz_C.of (by decide) (Nat.le_of_ble_eq_true rfl) ?_
  intro p e s m args below meth c A ls X hW hl
  have hx := X.1
  have hb := X.2.1
  have hl : lv_has ls 3 [(0, .ref (o 0)), (1, .int (nI t)), (2, .int q)] := hl
  have X : fz_X p s m meth c RX4 cX4_draws 3 none g A := X
  have hW : fz_W g A s (MW g o m0) s.heap [] := hW
  refine lv_aload_n hx hb dX4_draws_0 rfl (lv_at hl 0 rfl) ?_
  refine gf_X4_19 X hW 0 rfl rfl dX4_draws_1 ?_
  refine lv_iload_n hx hb dX4_draws_4 rfl (lv_at hl 1 rfl) ?_
  refine lv_dup2_11 hx hb dX4_draws_5 rfl rfl ?_
  refine fz_il X hW 4 (t) rfl rfl (by omega) (by decide) dX4_draws_6 ?_
  refine lv_aload_n hx hb dX4_draws_7 rfl (lv_at hl 0 rfl) ?_
  refine gf_X4_7 X hW 0 rfl rfl dX4_draws_8 ?_
  refine lv_iload_n hx hb dX4_draws_11 rfl (lv_at hl 1 rfl) ?_
  refine fz_il X hW 1 (t) rfl rfl (by omega) (by decide) dX4_draws_12 ?_
  refine lv_iload_n hx hb dX4_draws_13 rfl (lv_at hl 2 rfl) ?_
  have join22 : ∀ (z : Int32), z = (if m0.near t = q then 0 else 1) → ∀ (ls : Array Slot), lv_has ls 3 [(0, .ref (o 0)), (1, .int (nI t)), (2, .int q)] → W p l e (fz_R 1 0 0 22) s m args below meth c s.heap [] 0 0 (MQ below (fz_Q g (MW g o (mdV m0 t q)) none A) args s 0 0 A) (F0 m 22 ls [.int z, .int (m0.ch t), .int (nI t), .ref (o 4)]) := by
    intro z hz ls hl
    subst hz
    refine lv_ior hx hb dX4_draws_22 ?_
    refine fz_is X hW 4 (t) rfl rfl (by omega) (by decide) dX4_draws_23 (fun H locs hW => ?_)
    refine lv_aload_n hx hb dX4_draws_24 rfl (lv_at hl 0 rfl) ?_
    refine gf_X4_7 X hW 0 rfl rfl dX4_draws_25 ?_
    refine lv_iload_n hx hb dX4_draws_28 rfl (lv_at hl 1 rfl) ?_
    refine lv_iload_n hx hb dX4_draws_29 rfl (lv_at hl 2 rfl) ?_
    refine fz_is X hW 1 (t) rfl rfl (by omega) (by decide) dX4_draws_30 (fun H locs hW => ?_)
    refine lv_aload_n hx hb dX4_draws_31 rfl (lv_at hl 0 rfl) ?_
    refine lv_iload_n hx hb dX4_draws_32 rfl (lv_at hl 1 rfl) ?_
    refine fz_cVv X hW (c_X4_compares l g o (mdA m0 t q) t ht) lk_X4_68 (ci := 4) (q0 := 0) rfl rfl rfl rfl ⟨Nat.le_of_ble_eq_true rfl, Nat.le_of_ble_eq_true rfl⟩ hl rfl (Nat.le_of_ble_eq_true rfl) dX4_draws_33 ⟨Nat.le_refl _, Nat.le_refl _⟩ (fun H locs hW => ?_)
    exact fz_rv X (fz_cast (rfl) hW) dX4_draws_36
  refine lv_icmp_ne (tgt := 21) hx hb dX4_draws_14 (by decide) (fun c14 => ?_) (fun c14 => ?_)
  · skip
    have c14 : ¬ m0.near t = q := c14
    refine lv_iconst (v := 1) hx hb dX4_draws_21 (by decide) ?_
    exact join22 _ (if_neg c14).symm _ (lv_sub hl [0, 1, 2] rfl)
  · skip
    have c14 : m0.near t = q := c14
    refine lv_iconst (v := 0) hx hb dX4_draws_17 (by decide) ?_
    refine lv_goto (tgt := 22) hx hb dX4_draws_18 (by decide) ?_
    exact join22 _ (if_pos c14).symm _ (lv_sub hl [0, 1, 2] rfl)
set_option maxHeartbeats 4000000 in
set_option maxRecDepth 100000 in
theorem c_X4_isKnown (l : Launch) (g : GG) (o : Nat → Nat) (m0 : MV) (x : Int32) (hp : m0.pics ≤ 8) : fz_C l g yX4_isKnown cX4_isKnown 4 (some .boolean) 0 0 [.ref (o 0), .int x] (MW g o m0) (MW g o m0) (some (.int (mkF m0.known x m0.pics))) := by
  refine fz_C.of (by decide) (Nat.le_of_ble_eq_true rfl) ?_
  intro p e s m args below meth c A ls X hW hl
  have hx := X.1
  have hb := X.2.1
  have hl : lv_has ls 4 [(0, .ref (o 0)), (1, .int x)] := hl
  have X : fz_X p s m meth c RX4 cX4_isKnown 4 (some .boolean) g A := X
  have hW : fz_W g A s (MW g o m0) s.heap [] := hW
  refine lv_iconst (v := 0) hx hb dX4_isKnown_0 (by decide) ?_
  refine lv_istore_n (lv' := [(2, .int 0), (0, .ref (o 0)), (1, .int x)]) hx hb dX4_isKnown_1 rfl hl (by decide) rfl (fun ls hl => ?_)
  refine lv_iconst (v := 0) hx hb dX4_isKnown_2 (by decide) ?_
  refine lv_istore_n (lv' := [(3, .int 0), (2, .int 0), (0, .ref (o 0)), (1, .int x)]) hx hb dX4_isKnown_3 rfl hl (by decide) rfl (fun ls hl => ?_)
  have loop4 : ∀ (k : Nat) (t : Nat) (z : Int32), t ≤ m0.pics → m0.pics < t + k → z = mkF m0.known x t → ∀ (H : Heap) (locs : List Loc) (ls : Array Slot), fz_W g A s (MW g o m0) H locs → lv_has ls 4 [(0, .ref (o 0)), (1, .int x), (2, .int z), (3, .int (nI t))] → W p l e (fz_R 0 0 0 0) s m args below meth c H locs 0 0 (MQ below (fz_Q g (MW g o m0) (some (.int (mkF m0.known x m0.pics))) A) args s 0 0 A) (F0 m 4 ls []) := by
    intro k
    induction k with
    | zero =>
      intro t z ht hk
      omega
    | succ k ih4 =>
      intro t z ht hk hz H locs ls hW hl
      refine lv_iload_n hx hb dX4_isKnown_4 rfl (lv_at hl 3 rfl) ?_
      refine lv_aload_n hx hb dX4_isKnown_5 rfl (lv_at hl 0 rfl) ?_
      refine gf_X4_94 X hW 0 rfl rfl dX4_isKnown_6 ?_
      refine lv_icmp_ge (tgt := 38) hx hb dX4_isKnown_9 (by decide) (fun c9 => ?_) (fun c9 => ?_)
      · skip
        have h9 : m0.pics ≤ t := (nI_leI (a := m0.pics) (b := t) (by omega) (by omega)).mp c9
        have e9 : t = m0.pics := by omega
        have hl := lv_sub hl [0, 1, 2] rfl
        have hl : lv_has ls 4 [(0, .ref (o 0)), (1, .int x), (2, .int z)] := hl
        refine lv_iload_n hx hb dX4_isKnown_38 rfl (lv_at hl 2 rfl) ?_
        exact fz_rz X (fz_cast (rfl) hW) (by rw [hz, e9]) (fz_01 (mkF_01 _ _ _)) dX4_isKnown_39
      · skip
        have h9 : t < m0.pics := Nat.not_le.mp (fun z => c9 ((nI_leI (a := m0.pics) (b := t) (by omega) (by omega)).mpr z))
        refine lv_iload_n hx hb dX4_isKnown_12 rfl (lv_at hl 2 rfl) ?_
        refine lv_if_ne (tgt := 26) hx hb dX4_isKnown_13 (by decide) (fun c13 => ?_) (fun c13 => ?_)
        · skip
          refine lv_iconst (v := 1) hx hb dX4_isKnown_26 (by decide) ?_
          refine lv_goto (tgt := 31) hx hb dX4_isKnown_27 (by decide) ?_
          refine lv_istore_n (lv' := [(2, .int 1), (0, .ref (o 0)), (1, .int x), (3, .int (nI t))]) hx hb dX4_isKnown_31 rfl hl (by decide) rfl (fun ls hl => ?_)
          refine lv_iinc (v := nI (t + 1)) (lv' := [(3, .int (nI (t + 1))), (2, .int 1), (0, .ref (o 0)), (1, .int x)]) hx hb dX4_isKnown_32 hl (k := 3) rfl (nI_1 _) (by decide) rfl (fun ls hl => ?_)
          refine lv_goto (tgt := 4) hx hb dX4_isKnown_35 (by decide) ?_
          exact ih4 (t + 1) _ (by omega) (by omega) (by rw [hz] at c13; exact (if_neg c13).symm) _ _ _ (fz_cast (rfl) hW) (lv_sub hl [2, 3, 1, 0] rfl)
        · skip
          refine lv_aload_n hx hb dX4_isKnown_16 rfl (lv_at hl 0 rfl) ?_
          refine gf_X4_34 X hW 0 rfl rfl dX4_isKnown_17 ?_
          refine lv_iload_n hx hb dX4_isKnown_20 rfl (lv_at hl 3 rfl) ?_
          refine fz_il X hW 9 (t) rfl rfl (by omega) (by decide) dX4_isKnown_21 ?_
          refine lv_iload_n hx hb dX4_isKnown_22 rfl (lv_at hl 1 rfl) ?_
          refine lv_icmp_ne (tgt := 30) hx hb dX4_isKnown_23 (by decide) (fun c23 => ?_) (fun c23 => ?_)
          · skip
            refine lv_iconst (v := 0) hx hb dX4_isKnown_30 (by decide) ?_
            refine lv_istore_n (lv' := [(2, .int 0), (0, .ref (o 0)), (1, .int x), (3, .int (nI t))]) hx hb dX4_isKnown_31 rfl hl (by decide) rfl (fun ls hl => ?_)
            refine lv_iinc (v := nI (t + 1)) (lv' := [(3, .int (nI (t + 1))), (2, .int 0), (0, .ref (o 0)), (1, .int x)]) hx hb dX4_isKnown_32 hl (k := 3) rfl (nI_1 _) (by decide) rfl (fun ls hl => ?_)
            refine lv_goto (tgt := 4) hx hb dX4_isKnown_35 (by decide) ?_
            exact ih4 (t + 1) _ (by omega) (by omega) (by rw [hz] at c13; exact ((if_pos c13).trans (if_neg c23)).symm) _ _ _ (fz_cast (rfl) hW) (lv_sub hl [2, 3, 1, 0] rfl)
          · skip
            refine lv_iconst (v := 1) hx hb dX4_isKnown_26 (by decide) ?_
            refine lv_goto (tgt := 31) hx hb dX4_isKnown_27 (by decide) ?_
            refine lv_istore_n (lv' := [(2, .int 1), (0, .ref (o 0)), (1, .int x), (3, .int (nI t))]) hx hb dX4_isKnown_31 rfl hl (by decide) rfl (fun ls hl => ?_)
            refine lv_iinc (v := nI (t + 1)) (lv' := [(3, .int (nI (t + 1))), (2, .int 1), (0, .ref (o 0)), (1, .int x)]) hx hb dX4_isKnown_32 hl (k := 3) rfl (nI_1 _) (by decide) rfl (fun ls hl => ?_)
            refine lv_goto (tgt := 4) hx hb dX4_isKnown_35 (by decide) ?_
            exact ih4 (t + 1) _ (by omega) (by omega) (by rw [hz] at c13; exact ((if_pos c13).trans (if_pos c23)).symm) _ _ _ (fz_cast (rfl) hW) (lv_sub hl [2, 3, 1, 0] rfl)
  exact loop4 (m0.pics + 1) 0 0 (by omega) (by omega) rfl _ _ _ (fz_cast (rfl) hW) (lv_sub hl [2, 3, 1, 0] rfl)
set_option maxHeartbeats 4000000 in
set_option maxRecDepth 100000 in
theorem c_X4_kindOf (l : Launch) (g : GG) (o : Nat → Nat) (m0 : MV) (t : Nat) (ht : t < 48) : fz_C l g yX4_kindOf cX4_kindOf 4 (some .int) 0 0 [.ref (o 0), .int (nI t)] (MW g o m0) (MW g o m0) (some (.int (mkI m0 t))) := by
  refine fz_C.of (by decide) (Nat.le_of_ble_eq_true rfl) ?_
  intro p e s m args below meth c A ls X hW hl
  have hx := X.1
  have hb := X.2.1
  have hl : lv_has ls 4 [(0, .ref (o 0)), (1, .int (nI t))] := hl
  have X : fz_X p s m meth c RX4 cX4_kindOf 4 (some .int) g A := X
  have hW : fz_W g A s (MW g o m0) s.heap [] := hW
  refine lv_iconst (v := 0) hx hb dX4_kindOf_0 (by decide) ?_
  refine lv_istore_n (lv' := [(2, .int 0), (0, .ref (o 0)), (1, .int (nI t))]) hx hb dX4_kindOf_1 rfl hl (by decide) rfl (fun ls hl => ?_)
  refine lv_iconst (v := 0) hx hb dX4_kindOf_2 (by decide) ?_
  refine lv_istore_n (lv' := [(3, .int 0), (2, .int 0), (0, .ref (o 0)), (1, .int (nI t))]) hx hb dX4_kindOf_3 rfl hl (by decide) rfl (fun ls hl => ?_)
  have loop4 : ∀ (k : Nat) (y : Nat) (z : Int32), y ≤ 8 → 8 < y + k → z = mkS (m0.ch t) y → ∀ (H : Heap) (locs : List Loc) (ls : Array Slot), fz_W g A s (MW g o m0) H locs → lv_has ls 4 [(0, .ref (o 0)), (1, .int (nI t)), (2, .int z), (3, .int (nI y))] → W p l e (fz_R 0 0 0 0) s m args below meth c H locs 0 0 (MQ below (fz_Q g (MW g o m0) (some (.int (mkI m0 t))) A) args s 0 0 A) (F0 m 4 ls []) := by
    intro k
    induction k with
    | zero =>
      intro y z hy hk
      omega
    | succ k ih4 =>
      intro y z hy hk hz H locs ls hW hl
      refine lv_iload_n hx hb dX4_kindOf_4 rfl (lv_at hl 3 rfl) ?_
      refine lv_bipush (v := 8) hx hb dX4_kindOf_5 (by decide) ?_
      refine lv_icmp_ge (tgt := 29) hx hb dX4_kindOf_7 (by decide) (fun c7 => ?_) (fun c7 => ?_)
      · skip
        have h7 : 8 ≤ y := (nI_leI (a := 8) (b := y) (by omega) (by omega)).mp c7
        have e7 : y = 8 := by omega
        rw [e7] at hz
        have hl := lv_sub hl [0, 1, 2] rfl
        have hl : lv_has ls 4 [(0, .ref (o 0)), (1, .int (nI t)), (2, .int z)] := hl
        refine lv_iload_n hx hb dX4_kindOf_29 rfl (lv_at hl 2 rfl) ?_
        refine lv_iconst (v := 3) hx hb dX4_kindOf_30 (by decide) ?_
        refine lv_icmp_le (tgt := 38) hx hb dX4_kindOf_31 (by decide) (fun c31 => ?_) (fun c31 => ?_)
        · skip
          rw [hz] at c31
          refine lv_aload_n hx hb dX4_kindOf_38 rfl (lv_at hl 0 rfl) ?_
          refine gf_X4_7 X hW 0 rfl rfl dX4_kindOf_39 ?_
          refine lv_iload_n hx hb dX4_kindOf_42 rfl (lv_at hl 1 rfl) ?_
          refine fz_il X hW 1 (t) rfl rfl (by omega) (by decide) dX4_kindOf_43 ?_
          refine lv_bipush (v := 64) hx hb dX4_kindOf_44 (by decide) ?_
          refine lv_icmp_ge (tgt := 53) hx hb dX4_kindOf_46 (by decide) (fun c46 => ?_) (fun c46 => ?_)
          · skip
            refine lv_iconst (v := 1) hx hb dX4_kindOf_53 (by decide) ?_
            exact fz_ri X (fz_cast (rfl) hW) (by unfold mkI; first | exact (if_neg c31).symm | (rw [if_pos c31]; first | exact (if_neg (Int32.not_lt.mpr c46)).symm | exact (if_pos (Int32.not_le.mp c46)).symm)) dX4_kindOf_54
          · skip
            refine lv_iconst (v := 0) hx hb dX4_kindOf_49 (by decide) ?_
            refine lv_goto (tgt := 54) hx hb dX4_kindOf_50 (by decide) ?_
            exact fz_ri X (fz_cast (rfl) hW) (by unfold mkI; first | exact (if_neg c31).symm | (rw [if_pos c31]; first | exact (if_neg (Int32.not_lt.mpr c46)).symm | exact (if_pos (Int32.not_le.mp c46)).symm)) dX4_kindOf_54
        · skip
          rw [hz] at c31
          refine lv_iconst (v := 2) hx hb dX4_kindOf_34 (by decide) ?_
          refine lv_goto (tgt := 54) hx hb dX4_kindOf_35 (by decide) ?_
          exact fz_ri X (fz_cast (rfl) hW) (by unfold mkI; first | exact (if_neg c31).symm | (rw [if_pos c31]; first | exact (if_neg (Int32.not_lt.mpr c46)).symm | exact (if_pos (Int32.not_le.mp c46)).symm)) dX4_kindOf_54
      · skip
        have h7 : y < 8 := Nat.not_le.mp (fun z => c7 ((nI_leI (a := 8) (b := y) (by omega) (by omega)).mpr z))
        refine lv_iload_n hx hb dX4_kindOf_10 rfl (lv_at hl 2 rfl) ?_
        refine lv_aload_n hx hb dX4_kindOf_11 rfl (lv_at hl 0 rfl) ?_
        refine gf_X4_19 X hW 0 rfl rfl dX4_kindOf_12 ?_
        refine lv_iload_n hx hb dX4_kindOf_15 rfl (lv_at hl 1 rfl) ?_
        refine fz_il X hW 4 (t) rfl rfl (by omega) (by decide) dX4_kindOf_16 ?_
        refine lv_iload_n hx hb dX4_kindOf_17 rfl (lv_at hl 3 rfl) ?_
        refine lv_ishr hx hb dX4_kindOf_18 ?_
        refine lv_iconst (v := 1) hx hb dX4_kindOf_19 (by decide) ?_
        refine lv_iand hx hb dX4_kindOf_20 ?_
        refine lv_iadd hx hb dX4_kindOf_21 ?_
        refine lv_istore_n (lv' := [(2, .int _), (0, .ref (o 0)), (1, .int (nI t)), (3, .int (nI y))]) hx hb dX4_kindOf_22 rfl hl (by decide) rfl (fun ls hl => ?_)
        refine lv_iinc (v := nI (y + 1)) (lv' := [(3, .int (nI (y + 1))), (2, .int _), (0, .ref (o 0)), (1, .int (nI t))]) hx hb dX4_kindOf_23 hl (k := 3) rfl (nI_1 _) (by decide) rfl (fun ls hl => ?_)
        refine lv_goto (tgt := 4) hx hb dX4_kindOf_26 (by decide) ?_
        exact ih4 (y + 1) _ (by omega) (by omega) (by rw [hz]; rfl) _ _ _ (fz_cast (rfl) hW) (lv_sub hl [2, 3, 1, 0] rfl)
  exact loop4 9 0 0 (by omega) (by omega) rfl _ _ _ (fz_cast (rfl) hW) (lv_sub hl [2, 3, 1, 0] rfl)
set_option maxHeartbeats 4000000 in
set_option maxRecDepth 100000 in
theorem c_X4_isLookedAt (l : Launch) (g : GG) (o : Nat → Nat) (m0 : MV) (t : Nat) : fz_C l g yX4_isLookedAt cX4_isLookedAt 4 (some .boolean) 1 22 [.ref (o 0), .int (nI t)] (MW g o m0) (MW g o m0) (some (.int (mlI m0.look t))) := by
  refine fz_C.of (by decide) (Nat.le_of_ble_eq_true rfl) ?_
  intro p e s m args below meth c A ls X hW hl
  have hx := X.1
  have hb := X.2.1
  have hl : lv_has ls 4 [(0, .ref (o 0)), (1, .int (nI t))] := hl
  have X : fz_X p s m meth c RX4 cX4_isLookedAt 4 (some .boolean) g A := X
  have hW : fz_W g A s (MW g o m0) s.heap [] := hW
  refine lv_iload_n hx hb dX4_isLookedAt_0 rfl (lv_at hl 1 rfl) ?_
  refine lv_bipush (v := 8) hx hb dX4_isLookedAt_1 (by decide) ?_
  refine lv_irem hx hb dX4_isLookedAt_3 (by decide) ?_
  refine lv_aload_n hx hb dX4_isLookedAt_4 rfl (lv_at hl 0 rfl) ?_
  refine gf_X4_91 X hW 0 rfl rfl dX4_isLookedAt_5 ?_
  refine lv_bipush (v := 8) hx hb dX4_isLookedAt_8 (by decide) ?_
  refine lv_irem hx hb dX4_isLookedAt_10 (by decide) ?_
  refine lv_isub hx hb dX4_isLookedAt_11 ?_
  refine lv_istore_n (lv' := [(2, .int (((nI t) - (nI t) / 8 * 8) - ((nI m0.look) - (nI m0.look) / 8 * 8))), (0, .ref (o 0)), (1, .int (nI t))]) hx hb dX4_isLookedAt_12 rfl hl (by decide) rfl (fun ls hl => ?_)
  refine lv_iload_n hx hb dX4_isLookedAt_13 rfl (lv_at hl 2 rfl) ?_
  refine lv_bipush (v := 8) hx hb dX4_isLookedAt_14 (by decide) ?_
  refine lv_idiv hx hb dX4_isLookedAt_16 (by decide) ?_
  refine lv_aload_n hx hb dX4_isLookedAt_17 rfl (lv_at hl 1 rfl) ?_
  refine gf_X4_91 X hW 0 rfl rfl dX4_isLookedAt_18 ?_
  refine lv_bipush (v := 8) hx hb dX4_isLookedAt_21 (by decide) ?_
  refine lv_idiv hx hb dX4_isLookedAt_23 (by decide) ?_
  refine lv_isub hx hb dX4_isLookedAt_24 ?_
  refine lv_istore_n (lv' := [(3, .int (((nI t) / 8) - ((nI m0.look) / 8))), (2, .int (((nI t) - (nI t) / 8 * 8) - ((nI m0.look) - (nI m0.look) / 8 * 8))), (0, .ref (o 0)), (1, .int (nI t))]) hx hb dX4_isLookedAt_25 rfl hl (by decide) rfl (fun ls hl => ?_)
  refine lv_iload_n hx hb dX4_isLookedAt_26 rfl (lv_at hl 1 rfl) ?_
  refine lv_iconst (v := (-1)) hx hb dX4_isLookedAt_27 (by decide) ?_
  refine lv_iconst (v := 1) hx hb dX4_isLookedAt_28 (by decide) ?_
  refine fz_cSi X hW (c_X4_isIn l g _ (-1) 1 _) lk_X4_57 rfl ⟨Nat.le_of_ble_eq_true rfl, Nat.le_of_ble_eq_true rfl⟩ hl rfl (Nat.le_of_ble_eq_true rfl) dX4_isLookedAt_29 ⟨Nat.le_refl _, Nat.le_refl _⟩ (fun H locs hW => ?_)
  refine lv_if_eq (tgt := 48) hx hb dX4_isLookedAt_32 (by decide) (fun c32 => ?_) (fun c32 => ?_)
  · skip
    refine lv_iconst (v := 0) hx hb dX4_isLookedAt_48 (by decide) ?_
    exact fz_rz X (fz_cast (rfl) hW) (by unfold mlI; first | exact (b01_f (fun z => b01_0.mp c32 z.1)).symm | exact (b01_f (fun z => b01_0.mp c41 z.2)).symm | exact (b01_t ⟨b01_1 c32, b01_1 c41⟩).symm) (fz_01 (b01_01 _)) dX4_isLookedAt_49
  · skip
    refine lv_iload_n hx hb dX4_isLookedAt_35 rfl (lv_at hl 0 rfl) ?_
    refine lv_iconst (v := (-1)) hx hb dX4_isLookedAt_36 (by decide) ?_
    refine lv_iconst (v := 1) hx hb dX4_isLookedAt_37 (by decide) ?_
    refine fz_cSi X hW (c_X4_isIn l g _ (-1) 1 _) lk_X4_57 rfl ⟨Nat.le_of_ble_eq_true rfl, Nat.le_of_ble_eq_true rfl⟩ hl rfl (Nat.le_of_ble_eq_true rfl) dX4_isLookedAt_38 ⟨Nat.le_refl _, Nat.le_refl _⟩ (fun H locs hW => ?_)
    refine lv_if_eq (tgt := 48) hx hb dX4_isLookedAt_41 (by decide) (fun c41 => ?_) (fun c41 => ?_)
    · skip
      refine lv_iconst (v := 0) hx hb dX4_isLookedAt_48 (by decide) ?_
      exact fz_rz X (fz_cast (rfl) hW) (by unfold mlI; first | exact (b01_f (fun z => b01_0.mp c32 z.1)).symm | exact (b01_f (fun z => b01_0.mp c41 z.2)).symm | exact (b01_t ⟨b01_1 c32, b01_1 c41⟩).symm) (fz_01 (b01_01 _)) dX4_isLookedAt_49
    · skip
      refine lv_iconst (v := 1) hx hb dX4_isLookedAt_44 (by decide) ?_
      refine lv_goto (tgt := 49) hx hb dX4_isLookedAt_45 (by decide) ?_
      exact fz_rz X (fz_cast (rfl) hW) (by unfold mlI; first | exact (b01_f (fun z => b01_0.mp c32 z.1)).symm | exact (b01_f (fun z => b01_0.mp c41 z.2)).symm | exact (b01_t ⟨b01_1 c32, b01_1 c41⟩).symm) (fz_01 (b01_01 _)) dX4_isLookedAt_49
