set_option maxHeartbeats 4000000 in
set_option maxRecDepth 100000 in
theorem c_L_meetA (l : Launch) (g : GG) (q : Nat) (kn : Nat → Int32) (y : Int32) : fz_C l g yL_meet cL_meet 5 (some .int) 0 0 [.int y, .ref q, .int 1] ([(q, .inl (g.2 0, 9, .inl kn))]) ([(q, .inl (g.2 0, 9, .inl kn))]) (some (.int (meA kn (y + 1)))) := by
  refine fz_C.of (by decide) (Nat.le_of_ble_eq_true rfl) ?_
  intro p e s m args below meth c A ls X hW hl
  have hx := X.1
  have hb := X.2.1
  have hl : lv_has ls 5 [(0, .int y), (1, .ref q), (2, .int 1)] := hl
  have X : fz_X p s m meth c RL cL_meet 5 (some .int) g A := X
  have hW : fz_W g A s ([(q, .inl (g.2 0, 9, .inl kn))]) s.heap [] := hW
  refine lv_iconst (v := 0) hx hb dL_meet_0 (by decide) ?_
  refine lv_istore_n (lv' := [(3, .int 0), (0, .int y), (1, .ref q), (2, .int 1)]) hx hb dL_meet_1 rfl hl (by decide) rfl (fun ls hl => ?_)
  have loop2 : ∀ (k : Nat) (i : Nat), i ≤ 8 → 8 < i + k → fpl kn (y + 1) 0 8 = fpl kn (y + 1) i (8 - i) → ∀ (H : Heap) (locs : List Loc) (ls : Array Slot), fz_W g A s ([(q, .inl (g.2 0, 9, .inl kn))]) H locs → lv_has ls 5 [(0, .int y), (1, .ref q), (2, .int 1), (3, .int (nI i))] → W p l e (fz_R 0 0 0 0) s m args below meth c H locs 0 0 (MQ below (fz_Q g ([(q, .inl (g.2 0, 9, .inl kn))]) (some (.int (meA kn (y + 1)))) A) args s 0 0 A) (F0 m 2 ls []) := by
    intro k
    induction k with
    | zero =>
      intro i hi hk
      omega
    | succ k ih2 =>
      intro i hi hk he H locs ls hW hl
      refine lv_iload_n hx hb dL_meet_2 rfl (lv_at hl 3 rfl) ?_
      refine lv_bipush (v := 8) hx hb dL_meet_3 (by decide) ?_
      refine lv_icmp_ge (tgt := 72) hx hb dL_meet_5 (by decide) (fun c5 => ?_) (fun c5 => ?_)
      · skip
        have h5 : 8 ≤ i := (nI_leI (a := 8) (b := i) (by omega) (by omega)).mp c5
        have hf : fpl kn (y + 1) 0 8 = 8 := by rw [he, show 8 - i = 0 by omega]; show i = 8; omega
        have hA : meA kn (y + 1) = 0 := if_pos hf
        refine lv_bipush (v := 7) hx hb dL_meet_72 (by decide) ?_
        refine lv_istore_n (lv' := [(3, .int 7), (0, .int y), (1, .ref q), (2, .int 1)]) hx hb dL_meet_74 rfl hl (by decide) rfl (fun ls hl => ?_)
        refine lv_iload_n hx hb dL_meet_75 rfl (lv_at hl 0 rfl) ?_
        refine lv_if_le (tgt := 97) hx hb dL_meet_76 (by decide) (fun c76 => ?_) (fun c76 => ?_)
        · first | exact absurd c76 (by decide) | exact absurd (by decide) c76
        · skip
          refine lv_iload_n hx hb dL_meet_79 rfl (lv_at hl 3 rfl) ?_
          refine lv_if_ne (tgt := 97) hx hb dL_meet_80 (by decide) (fun c80 => ?_) (fun c80 => ?_)
          · skip
            refine lv_aload_n hx hb dL_meet_97 rfl (lv_at hl 2 rfl) ?_
            refine lv_iconst (v := 0) hx hb dL_meet_98 (by decide) ?_
            refine lv_iload_n hx hb dL_meet_99 rfl (lv_at hl 3 rfl) ?_
            refine lv_if_eq (tgt := 109) hx hb dL_meet_100 (by decide) (fun c100 => ?_) (fun c100 => ?_)
            · first | exact absurd c100 (by decide) | exact absurd (by decide) c100
            · skip
              refine lv_aload_n hx hb dL_meet_103 rfl (lv_at hl 2 rfl) ?_
              refine lv_iconst (v := 0) hx hb dL_meet_104 (by decide) ?_
              refine fz_il X hW 0 (0) rfl rfl (by omega) (by decide) dL_meet_105 ?_
              refine lv_goto (tgt := 112) hx hb dL_meet_106 (by decide) ?_
              refine fz_is X hW 0 (0) rfl rfl (by omega) (by decide) dL_meet_112 (fun H locs hW => ?_)
              refine lv_iconst (v := 0) hx hb dL_meet_113 (by decide) ?_
              exact fz_ri X (fz_cast (congrArg (fun z => ([(q, .inl (g.2 0, 9, .inl (z)))] : va_W)) (upd_id kn 0)) hW) (hA.symm) dL_meet_114
          · first | exact absurd c80 (by decide) | exact absurd (by decide) c80
      · skip
        have h5 : i < 8 := Nat.not_le.mp (fun z => c5 ((nI_leI (a := 8) (b := i) (by omega) (by omega)).mpr z))
        refine lv_aload_n hx hb dL_meet_8 rfl (lv_at hl 1 rfl) ?_
        refine lv_iload_n hx hb dL_meet_9 rfl (lv_at hl 3 rfl) ?_
        refine fz_il X hW 0 (i) rfl rfl (by omega) (by decide) dL_meet_10 ?_
        refine lv_iload_n hx hb dL_meet_11 rfl (lv_at hl 0 rfl) ?_
        refine lv_iconst (v := 1) hx hb dL_meet_12 (by decide) ?_
        refine lv_iadd hx hb dL_meet_13 ?_
        refine lv_icmp_eq (tgt := 20) hx hb dL_meet_14 (by decide) (fun c14 => ?_) (fun c14 => ?_)
        · skip
          have hf : fpl kn (y + 1) 0 8 = i := by rw [he, show 8 - i = (8 - (i + 1)) + 1 by omega]; exact if_pos c14
          have hA : meA kn (y + 1) = 1 := if_neg (by omega)
          refine lv_iload_n hx hb dL_meet_20 rfl (lv_at hl 3 rfl) ?_
          refine lv_istore (lv' := [(4, .int (nI i)), (0, .int y), (1, .ref q), (2, .int 1), (3, .int (nI i))]) hx hb dL_meet_21 hl (by decide) rfl (fun ls hl => ?_)
          refine lv_iload hx hb dL_meet_23 (lv_at hl 0 rfl) ?_
          refine lv_if_le (tgt := 48) hx hb dL_meet_25 (by decide) (fun c25 => ?_) (fun c25 => ?_)
          · skip
            refine lv_aload_n hx hb dL_meet_48 rfl (lv_at hl 2 rfl) ?_
            refine lv_iconst (v := 0) hx hb dL_meet_49 (by decide) ?_
            refine lv_iload_n hx hb dL_meet_50 rfl (lv_at hl 3 rfl) ?_
            refine lv_if_eq (tgt := 60) hx hb dL_meet_51 (by decide) (fun c51 => ?_) (fun c51 => ?_)
            · first | exact absurd c51 (by decide) | exact absurd (by decide) c51
            · skip
              refine lv_aload_n hx hb dL_meet_54 rfl (lv_at hl 2 rfl) ?_
              refine lv_iconst (v := 0) hx hb dL_meet_55 (by decide) ?_
              refine fz_il X hW 0 (0) rfl rfl (by omega) (by decide) dL_meet_56 ?_
              refine lv_goto (tgt := 63) hx hb dL_meet_57 (by decide) ?_
              refine fz_is X hW 0 (0) rfl rfl (by omega) (by decide) dL_meet_63 (fun H locs hW => ?_)
              refine lv_iconst (v := 1) hx hb dL_meet_64 (by decide) ?_
              exact fz_ri X (fz_cast (congrArg (fun z => ([(q, .inl (g.2 0, 9, .inl (z)))] : va_W)) (upd_id kn 0)) hW) (hA.symm) dL_meet_65
          · skip
            refine lv_iload_n hx hb dL_meet_28 rfl (lv_at hl 3 rfl) ?_
            refine lv_if_ne (tgt := 48) hx hb dL_meet_29 (by decide) (fun c29 => ?_) (fun c29 => ?_)
            · skip
              refine lv_aload_n hx hb dL_meet_48 rfl (lv_at hl 2 rfl) ?_
              refine lv_iconst (v := 0) hx hb dL_meet_49 (by decide) ?_
              refine lv_iload_n hx hb dL_meet_50 rfl (lv_at hl 3 rfl) ?_
              refine lv_if_eq (tgt := 60) hx hb dL_meet_51 (by decide) (fun c51 => ?_) (fun c51 => ?_)
              · first | exact absurd c51 (by decide) | exact absurd (by decide) c51
              · skip
                refine lv_aload_n hx hb dL_meet_54 rfl (lv_at hl 2 rfl) ?_
                refine lv_iconst (v := 0) hx hb dL_meet_55 (by decide) ?_
                refine fz_il X hW 0 (0) rfl rfl (by omega) (by decide) dL_meet_56 ?_
                refine lv_goto (tgt := 63) hx hb dL_meet_57 (by decide) ?_
                refine fz_is X hW 0 (0) rfl rfl (by omega) (by decide) dL_meet_63 (fun H locs hW => ?_)
                refine lv_iconst (v := 1) hx hb dL_meet_64 (by decide) ?_
                exact fz_ri X (fz_cast (congrArg (fun z => ([(q, .inl (g.2 0, 9, .inl (z)))] : va_W)) (upd_id kn 0)) hW) (hA.symm) dL_meet_65
            · first | exact absurd c29 (by decide) | exact absurd (by decide) c29
        · skip
          refine lv_goto (tgt := 66) hx hb dL_meet_17 (by decide) ?_
          refine lv_iinc (v := nI (i + 1)) (lv' := [(3, .int (nI (i + 1))), (0, .int y), (1, .ref q), (2, .int 1)]) hx hb dL_meet_66 hl (k := 3) rfl (nI_1 _) (by decide) rfl (fun ls hl => ?_)
          refine lv_goto (tgt := 2) hx hb dL_meet_69 (by decide) ?_
          exact ih2 (i + 1) (by omega) (by omega) (by rw [he, show 8 - i = (8 - (i + 1)) + 1 by omega]; exact if_neg c14) _ _ _ (fz_cast (rfl) hW) (lv_sub hl [1, 2, 3, 0] rfl)
  exact loop2 9 0 (by omega) (by omega) rfl _ _ _ (fz_cast (rfl) hW) (lv_sub hl [1, 2, 3, 0] rfl)
set_option maxHeartbeats 4000000 in
set_option maxRecDepth 100000 in
theorem c_L_meetT (l : Launch) (g : GG) (q : Nat) (kn : Nat → Int32) (y : Int32) : fz_C l g yL_meet cL_meet 5 (some .int) 0 0 [.int y, .ref q, .int 0] ([(q, .inl (g.2 0, 9, .inl kn))]) ([(q, .inl (g.2 0, 9, .inl (meK kn (y + 1))))]) (some (.int (meA kn (y + 1)))) := by
  refine fz_C.of (by decide) (Nat.le_of_ble_eq_true rfl) ?_
  intro p e s m args below meth c A ls X hW hl
  have hx := X.1
  have hb := X.2.1
  have hl : lv_has ls 5 [(0, .int y), (1, .ref q), (2, .int 0)] := hl
  have X : fz_X p s m meth c RL cL_meet 5 (some .int) g A := X
  have hW : fz_W g A s ([(q, .inl (g.2 0, 9, .inl kn))]) s.heap [] := hW
  refine lv_iconst (v := 0) hx hb dL_meet_0 (by decide) ?_
  refine lv_istore_n (lv' := [(3, .int 0), (0, .int y), (1, .ref q), (2, .int 0)]) hx hb dL_meet_1 rfl hl (by decide) rfl (fun ls hl => ?_)
  have loop2 : ∀ (k : Nat) (i : Nat), i ≤ 8 → 8 < i + k → fpl kn (y + 1) 0 8 = fpl kn (y + 1) i (8 - i) → ∀ (H : Heap) (locs : List Loc) (ls : Array Slot), fz_W g A s ([(q, .inl (g.2 0, 9, .inl kn))]) H locs → lv_has ls 5 [(0, .int y), (1, .ref q), (2, .int 0), (3, .int (nI i))] → W p l e (fz_R 0 0 0 0) s m args below meth c H locs 0 0 (MQ below (fz_Q g ([(q, .inl (g.2 0, 9, .inl (meK kn (y + 1))))]) (some (.int (meA kn (y + 1)))) A) args s 0 0 A) (F0 m 2 ls []) := by
    intro k
    induction k with
    | zero =>
      intro i hi hk
      omega
    | succ k ih2 =>
      intro i hi hk he H locs ls hW hl
      refine lv_iload_n hx hb dL_meet_2 rfl (lv_at hl 3 rfl) ?_
      refine lv_bipush (v := 8) hx hb dL_meet_3 (by decide) ?_
      refine lv_icmp_ge (tgt := 72) hx hb dL_meet_5 (by decide) (fun c5 => ?_) (fun c5 => ?_)
      · skip
        have h5 : 8 ≤ i := (nI_leI (a := 8) (b := i) (by omega) (by omega)).mp c5
        have hf : fpl kn (y + 1) 0 8 = 8 := by rw [he, show 8 - i = 0 by omega]; show i = 8; omega
        have hA : meA kn (y + 1) = 0 := if_pos hf
        have hN : meN kn (y + 1) = 7 := if_pos hf
        refine lv_bipush (v := 7) hx hb dL_meet_72 (by decide) ?_
        refine lv_istore_n (lv' := [(3, .int 7), (0, .int y), (1, .ref q), (2, .int 0)]) hx hb dL_meet_74 rfl hl (by decide) rfl (fun ls hl => ?_)
        have loop75 : ∀ (k : Nat) (j : Nat), j ≤ 7 → j < k → ∀ (H : Heap) (locs : List Loc) (ls : Array Slot), fz_W g A s ([(q, .inl (g.2 0, 9, .inl (shF kn 7 j)))]) H locs → lv_has ls 5 [(0, .int y), (1, .ref q), (2, .int 0), (3, .int (nI j))] → W p l e (fz_R 0 0 0 0) s m args below meth c H locs 0 0 (MQ below (fz_Q g ([(q, .inl (g.2 0, 9, .inl (meK kn (y + 1))))]) (some (.int (meA kn (y + 1)))) A) args s 0 0 A) (F0 m 75 ls []) := by
          intro k
          induction k with
          | zero =>
            intro j hj hk
            omega
          | succ k ih75 =>
            intro j hj hk H locs ls hW hl
            refine lv_iload_n hx hb dL_meet_75 rfl (lv_at hl 3 rfl) ?_
            refine lv_if_le (tgt := 97) hx hb dL_meet_76 (by decide) (fun c76 => ?_) (fun c76 => ?_)
            · skip
              have hh : j = 0 := by
                have := (nI_leI (a := j) (b := 0) (by omega) (by omega)).mp c76
                omega
              subst hh
              refine lv_aload_n hx hb dL_meet_97 rfl (lv_at hl 1 rfl) ?_
              refine lv_iconst (v := 0) hx hb dL_meet_98 (by decide) ?_
              refine lv_iload_n hx hb dL_meet_99 rfl (lv_at hl 2 rfl) ?_
              refine lv_if_eq (tgt := 109) hx hb dL_meet_100 (by decide) (fun c100 => ?_) (fun c100 => ?_)
              · skip
                refine lv_iload_n hx hb dL_meet_109 rfl (lv_at hl 0 rfl) ?_
                refine lv_iconst (v := 1) hx hb dL_meet_110 (by decide) ?_
                refine lv_iadd hx hb dL_meet_111 ?_
                refine fz_is X hW 0 (0) rfl rfl (by omega) (by decide) dL_meet_112 (fun H locs hW => ?_)
                refine lv_iconst (v := 0) hx hb dL_meet_113 (by decide) ?_
                exact fz_ri X (fz_cast (by unfold meK; rw [hN]; rfl) hW) (hA.symm) dL_meet_114
              · first | exact absurd c100 (by decide) | exact absurd (by decide) c100
            · skip
              obtain ⟨j2, rfl⟩ : ∃ j2, j = j2 + 1 := ⟨j - 1, by
                have hh : ¬ j ≤ 0 := fun z => c76 ((nI_leI (a := j) (b := 0) (by omega) (by omega)).mpr z)
                omega⟩
              refine lv_iload_n hx hb dL_meet_79 rfl (lv_at hl 2 rfl) ?_
              refine lv_if_ne (tgt := 97) hx hb dL_meet_80 (by decide) (fun c80 => ?_) (fun c80 => ?_)
              · first | exact absurd c80 (by decide) | exact absurd (by decide) c80
              · skip
                refine lv_aload_n hx hb dL_meet_83 rfl (lv_at hl 1 rfl) ?_
                refine lv_iload_n hx hb dL_meet_84 rfl (lv_at hl 3 rfl) ?_
                refine lv_aload_n hx hb dL_meet_85 rfl (lv_at hl 1 rfl) ?_
                refine lv_iload_n hx hb dL_meet_86 rfl (lv_at hl 3 rfl) ?_
                refine lv_iconst (v := 1) hx hb dL_meet_87 (by decide) ?_
                refine lv_isub hx hb dL_meet_88 ?_
                refine fz_il X hW 0 (j2) rfl (by exact pk_sub (a := j2 + 1) (b := 1) (by omega)) (by omega) (by decide) dL_meet_89 ?_
                refine fz_is X hW 0 (j2 + 1) rfl rfl (by omega) (by decide) dL_meet_90 (fun H locs hW => ?_)
                refine lv_iinc (v := nI j2) (lv' := [(3, .int (nI j2)), (0, .int y), (1, .ref q), (2, .int 0)]) hx hb dL_meet_91 hl (k := 3) rfl (pk_m1 j2) (by decide) rfl (fun ls hl => ?_)
                refine lv_goto (tgt := 75) hx hb dL_meet_94 (by decide) ?_
                exact ih75 j2 (by omega) (by omega) _ _ _ (fz_cast (congrArg (fun z => ([(q, .inl (g.2 0, 9, .inl (z)))] : va_W)) (shF_s kn 7 j2 (by omega))) hW) (lv_sub hl [1, 2, 3, 0] rfl)
        exact loop75 8 7 (Nat.le_refl _) (Nat.lt_succ_self _) _ _ _ (fz_cast (congrArg (fun z => ([(q, .inl (g.2 0, 9, .inl (z)))] : va_W)) (shF_g kn 7).symm) hW) (lv_sub hl [1, 2, 3, 0] rfl)
      · skip
        have h5 : i < 8 := Nat.not_le.mp (fun z => c5 ((nI_leI (a := 8) (b := i) (by omega) (by omega)).mpr z))
        refine lv_aload_n hx hb dL_meet_8 rfl (lv_at hl 1 rfl) ?_
        refine lv_iload_n hx hb dL_meet_9 rfl (lv_at hl 3 rfl) ?_
        refine fz_il X hW 0 (i) rfl rfl (by omega) (by decide) dL_meet_10 ?_
        refine lv_iload_n hx hb dL_meet_11 rfl (lv_at hl 0 rfl) ?_
        refine lv_iconst (v := 1) hx hb dL_meet_12 (by decide) ?_
        refine lv_iadd hx hb dL_meet_13 ?_
        refine lv_icmp_eq (tgt := 20) hx hb dL_meet_14 (by decide) (fun c14 => ?_) (fun c14 => ?_)
        · skip
          have hf : fpl kn (y + 1) 0 8 = i := by rw [he, show 8 - i = (8 - (i + 1)) + 1 by omega]; exact if_pos c14
          have hA : meA kn (y + 1) = 1 := if_neg (by omega)
          have hN : meN kn (y + 1) = i := (if_neg (by omega)).trans hf
          refine lv_iload_n hx hb dL_meet_20 rfl (lv_at hl 3 rfl) ?_
          refine lv_istore (lv' := [(4, .int (nI i)), (0, .int y), (1, .ref q), (2, .int 0), (3, .int (nI i))]) hx hb dL_meet_21 hl (by decide) rfl (fun ls hl => ?_)
          have loop23 : ∀ (k : Nat) (j : Nat), j ≤ i → j < k → ∀ (H : Heap) (locs : List Loc) (ls : Array Slot), fz_W g A s ([(q, .inl (g.2 0, 9, .inl (shF kn i j)))]) H locs → lv_has ls 5 [(0, .int y), (1, .ref q), (2, .int 0), (3, .int (nI i)), (4, .int (nI j))] → W p l e (fz_R 0 0 0 0) s m args below meth c H locs 0 0 (MQ below (fz_Q g ([(q, .inl (g.2 0, 9, .inl (meK kn (y + 1))))]) (some (.int (meA kn (y + 1)))) A) args s 0 0 A) (F0 m 23 ls []) := by
            intro k
            induction k with
            | zero =>
              intro j hj hk
              omega
            | succ k ih23 =>
              intro j hj hk H locs ls hW hl
              refine lv_iload hx hb dL_meet_23 (lv_at hl 4 rfl) ?_
              refine lv_if_le (tgt := 48) hx hb dL_meet_25 (by decide) (fun c25 => ?_) (fun c25 => ?_)
              · skip
                have hh : j = 0 := by
                  have := (nI_leI (a := j) (b := 0) (by omega) (by omega)).mp c25
                  omega
                subst hh
                refine lv_aload_n hx hb dL_meet_48 rfl (lv_at hl 1 rfl) ?_
                refine lv_iconst (v := 0) hx hb dL_meet_49 (by decide) ?_
                refine lv_iload_n hx hb dL_meet_50 rfl (lv_at hl 2 rfl) ?_
                refine lv_if_eq (tgt := 60) hx hb dL_meet_51 (by decide) (fun c51 => ?_) (fun c51 => ?_)
                · skip
                  refine lv_iload_n hx hb dL_meet_60 rfl (lv_at hl 0 rfl) ?_
                  refine lv_iconst (v := 1) hx hb dL_meet_61 (by decide) ?_
                  refine lv_iadd hx hb dL_meet_62 ?_
                  refine fz_is X hW 0 (0) rfl rfl (by omega) (by decide) dL_meet_63 (fun H locs hW => ?_)
                  refine lv_iconst (v := 1) hx hb dL_meet_64 (by decide) ?_
                  exact fz_ri X (fz_cast (by unfold meK; rw [hN]; rfl) hW) (hA.symm) dL_meet_65
                · first | exact absurd c51 (by decide) | exact absurd (by decide) c51
              · skip
                obtain ⟨j2, rfl⟩ : ∃ j2, j = j2 + 1 := ⟨j - 1, by
                  have hh : ¬ j ≤ 0 := fun z => c25 ((nI_leI (a := j) (b := 0) (by omega) (by omega)).mpr z)
                  omega⟩
                refine lv_iload_n hx hb dL_meet_28 rfl (lv_at hl 2 rfl) ?_
                refine lv_if_ne (tgt := 48) hx hb dL_meet_29 (by decide) (fun c29 => ?_) (fun c29 => ?_)
                · first | exact absurd c29 (by decide) | exact absurd (by decide) c29
                · skip
                  refine lv_aload_n hx hb dL_meet_32 rfl (lv_at hl 1 rfl) ?_
                  refine lv_iload hx hb dL_meet_33 (lv_at hl 4 rfl) ?_
                  refine lv_aload_n hx hb dL_meet_35 rfl (lv_at hl 1 rfl) ?_
                  refine lv_iload hx hb dL_meet_36 (lv_at hl 4 rfl) ?_
                  refine lv_iconst (v := 1) hx hb dL_meet_38 (by decide) ?_
                  refine lv_isub hx hb dL_meet_39 ?_
                  refine fz_il X hW 0 (j2) rfl (by exact pk_sub (a := j2 + 1) (b := 1) (by omega)) (by omega) (by decide) dL_meet_40 ?_
                  refine fz_is X hW 0 (j2 + 1) rfl rfl (by omega) (by decide) dL_meet_41 (fun H locs hW => ?_)
                  refine lv_iinc (v := nI j2) (lv' := [(4, .int (nI j2)), (0, .int y), (1, .ref q), (2, .int 0), (3, .int (nI i))]) hx hb dL_meet_42 hl (k := 4) rfl (pk_m1 j2) (by decide) rfl (fun ls hl => ?_)
                  refine lv_goto (tgt := 23) hx hb dL_meet_45 (by decide) ?_
                  exact ih23 j2 (by omega) (by omega) _ _ _ (fz_cast (congrArg (fun z => ([(q, .inl (g.2 0, 9, .inl (z)))] : va_W)) (shF_s kn i j2 (by omega))) hW) (lv_sub hl [1, 2, 3, 4, 0] rfl)
          exact loop23 (i + 1) i (Nat.le_refl _) (Nat.lt_succ_self _) _ _ _ (fz_cast (congrArg (fun z => ([(q, .inl (g.2 0, 9, .inl (z)))] : va_W)) (shF_g kn i).symm) hW) (lv_sub hl [1, 2, 3, 4, 0] rfl)
        · skip
          refine lv_goto (tgt := 66) hx hb dL_meet_17 (by decide) ?_
          refine lv_iinc (v := nI (i + 1)) (lv' := [(3, .int (nI (i + 1))), (0, .int y), (1, .ref q), (2, .int 0)]) hx hb dL_meet_66 hl (k := 3) rfl (nI_1 _) (by decide) rfl (fun ls hl => ?_)
          refine lv_goto (tgt := 2) hx hb dL_meet_69 (by decide) ?_
          exact ih2 (i + 1) (by omega) (by omega) (by rw [he, show 8 - i = (8 - (i + 1)) + 1 by omega]; exact if_neg c14) _ _ _ (fz_cast (rfl) hW) (lv_sub hl [1, 2, 3, 0] rfl)
  exact loop2 9 0 (by omega) (by omega) rfl _ _ _ (fz_cast (rfl) hW) (lv_sub hl [1, 2, 3, 0] rfl)
