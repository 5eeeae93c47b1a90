/-! the law's loop -/
set_option maxHeartbeats 4000000 in
set_option maxRecDepth 100000 in
theorem law_loop {p : Program} {l : Launch} {e : Env} {s : State} {m : MethodId} {below : List Frame} {meth : Method} {c : Code} {g : GG} {A : Nat → Prop} {b0 L f : Nat} {xs : Nat → Int32} {a b r : Nat → Nat} (X : fz_X p s m meth c RL cL_law 20 ret g A) (Y : fz_Y s A) (hN : va_Nc XIA XIO s) (hfl : l.stackTraces = false) (hX : va_X b0 L xs s s.heap) (hbl : b0 < s.heap.size) (hbA : ¬ A b0) (hL : L ≤ 260) (hAq : ∀ z, A z → s.heap.size ≤ z) :
    ∀ (n K : Nat), K ≤ 60 → 60 < K + n → ∀ (v u : SV) (x : LV) (H : Heap) (locs : List Loc) (ls : Array Slot), Bo v x K → fz_W g A s (LW g f a b v u r x) H locs → lv_has ls 20 (loB b0 f r K) → W p l e room_1 s m #[Value.ref b0] below meth c H locs (100 + 10 * K) (2000 + 100 * K) (lw_Z below #[Value.ref b0] s) (F0 m 73 ls []) := by
  have hx := X.1
  have hb := X.2.1
  intro n
  induction n with
  | zero =>
    intro K h1 h2
    exact absurd h2 (by omega)
  | succ n ih =>
    intro K h1 h2 v u x H locs ls hB hW hl
    have hl : lv_has ls 20 [(0, .ref b0), (1, .ref f), (2, .ref (r 0)), (3, .ref (r 1)), (4, .ref (r 2)), (5, .ref (r 3)), (6, .ref (r 4)), (7, .ref (r 5)), (8, .ref (r 6)), (9, .int (nI K))] := hl
    have hcs : 100 + 10 * K + 20 ≤ 600074 ∧ 2000 + 100 * K + 500 ≤ 7301550 := ⟨by omega, by omega⟩
    refine lv_iload hx hb dL_law_73 (lv_at hl 9 rfl) ?_
    refine lv_bipush (v := 60) hx hb dL_law_75 (by decide) ?_
    refine lv_icmp_ge (tgt := 779) hx hb dL_law_77 (by decide) (fun c1 => ?_) (fun c1 => ?_)
    · refine la_end (L := L) (xs := xs) X Y hN hfl hcs hB (by omega) hW hl (fun v u x H locs ls hW => ?_)
      refine va_forget (fun z hz => hAq _ (hW.2.2.2.2 z hz)) ?_
      refine W.widen (k := 600074) (n := 7301550) (by omega) (by omega) ?_
      exact lw_ret hx hb X.2.2.1 X.2.2.2.2.2.1 dL_law_876
    · have hK : K < 60 := Nat.not_le.mp (fun z => c1 ((nI_leI (a := 60) (b := K) (by omega) (by omega)).mpr z))
      have k773 : ∀ (v u : SV) (x : LV) (H : Heap) (locs : List Loc) (ls : Array Slot), Bo v x (K + 1) → fz_W g A s (LW g f a b v u r x) H locs → lv_has ls 20 (loB b0 f r K) → W p l e room_1 s m #[Value.ref b0] below meth c H locs (100 + 10 * K + 6 + 1) (2000 + 100 * K + 60 + 6) (lw_Z below #[Value.ref b0] s) (F0 m 773 ls []) := by
        intro v u x H locs ls hB hW hl
        have hl : lv_has ls 20 [(0, .ref b0), (1, .ref f), (2, .ref (r 0)), (3, .ref (r 1)), (4, .ref (r 2)), (5, .ref (r 3)), (6, .ref (r 4)), (7, .ref (r 5)), (8, .ref (r 6)), (9, .int (nI K))] := hl
        refine lv_iinc (v := nI (K + 1)) (lv' := [(9, .int (nI (K + 1))), (0, .ref b0), (1, .ref f), (2, .ref (r 0)), (3, .ref (r 1)), (4, .ref (r 2)), (5, .ref (r 3)), (6, .ref (r 4)), (7, .ref (r 5)), (8, .ref (r 6))]) hx hb dL_law_773 hl (k := 9) rfl (nI_1 K) (by decide) rfl (fun ls hl => ?_)
        refine lv_goto (tgt := 73) hx hb dL_law_776 (by decide) ?_
        refine W.widen (k := 100 + 10 * (K + 1)) (n := 2000 + 100 * (K + 1)) (by omega) (by omega) ?_
        exact ih (K + 1) (by omega) (by omega) v u x H locs ls hB hW (lv_sub hl [1, 2, 3, 4, 5, 6, 7, 8, 9, 0] rfl)
      have k754 : ∀ (u : SV) (v : SV) (x : LV) (H : Heap) (locs : List Loc) (ls : Array Slot), Bo v x (K + 1) → fz_W g A s (LW g f a b v u r x) H locs → lv_has ls 20 (loB b0 f r K) → W p l e room_1 s m #[Value.ref b0] below meth c H locs (100 + 10 * K + 6) (2000 + 100 * K + 60) (lw_Z below #[Value.ref b0] s) (F0 m 754 ls []) := by
        intro u v x H locs ls hB hW hl
        exact la_same (L := L) (xs := xs) X Y hN hfl ⟨by omega, by omega⟩ hB hW hl (fun H locs ls hW hl => k773 v u x H locs ls hB hW hl)
      have hT : K + 1 < 2 ^ 20 := by omega
      refine la_pro X hcs hX hbl hbA hL hK hW hl (fun xv yv kd lf tp wd hg H locs ls hkd hlf htp hwd hhg h8 h6 hW hl => ?_)
      have hl : lv_has ls 20 [(0, .ref b0), (1, .ref f), (2, .ref (r 0)), (3, .ref (r 1)), (4, .ref (r 2)), (5, .ref (r 3)), (6, .ref (r 4)), (7, .ref (r 5)), (8, .ref (r 6)), (9, .int (nI K)), (10, .int xv), (11, .int yv), (12, .int (nI kd)), (13, .int (nI lf)), (14, .int (nI tp)), (15, .int (nI wd)), (16, .int (nI hg))] := hl
      refine lv_iload hx hb dL_law_198 (lv_at hl 12 rfl) ?_
      refine lv_iconst (v := 5) hx hb dL_law_200 (by decide) ?_
      refine lv_icmp_ge (tgt := 368) hx hb dL_law_201 (by decide) (fun c2 => ?_) (fun c2 => ?_)
      · refine lv_iload hx hb dL_law_368 (lv_at hl 12 rfl) ?_
        refine lv_bipush (v := 7) hx hb dL_law_370 (by decide) ?_
        refine lv_icmp_ge (tgt := 641) hx hb dL_law_372 (by decide) (fun c3 => ?_) (fun c3 => ?_)
        · refine lv_iload hx hb dL_law_641 (lv_at hl 12 rfl) ?_
          refine lv_bipush (v := 7) hx hb dL_law_643 (by decide) ?_
          refine lv_icmp_ne (tgt := 684) hx hb dL_law_645 (by decide) (fun c4 => ?_) (fun c4 => ?_)
          · exact la_step (L := L) (xs := xs) X hcs hB hT hlf htp hwd hhg h8 h6 hW hl (k754 u)
          · exact la_look (L := L) (xs := xs) X hcs hB hT hlf htp hwd hhg h8 h6 hW hl (k754 u)
        · exact la_move (L := L) (xs := xs) X Y hN hfl hcs hB hT hlf htp hwd hhg h8 h6 hW hl (k754 u) (fun v x H locs ls hB hW hl => W.widen (by omega) (by omega) (k773 v u x H locs ls hB hW hl))
      · exact la_fill (L := L) (xs := xs) X hcs hB hT hlf htp hwd hhg h8 h6 hW hl (k754 u)
