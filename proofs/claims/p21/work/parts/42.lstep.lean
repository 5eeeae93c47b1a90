theorem i_le1 {x : Int32} : x ≤ 1 ↔ x < 2 := by
  rw [Int32.lt_iff_toInt_lt, Int32.le_iff_toInt_le]
  show x.toInt ≤ 1 ↔ x.toInt < 2
  omega
theorem g2_0 {v : SV} {y : Int32} {x : LV} (hr : Rel v y x) (h : v.wm = 0) : x.gg 2 = 0 := by
  have k := hr.2.2.2.2.2.2.2.2.2.1
  rw [h] at k
  exact k
theorem g2_n {v : SV} {y : Int32} {x : LV} {T : Nat} (hr : Rel v y x) (hi : Inw v T) (h : x.gg 2 = 0) : v.wm = 0 := by
  have k := hr.2.2.2.2.2.2.2.2.2.1
  rw [h] at k
  have w4 := hi.1
  exact ((nI_eq (a := 0) (by omega) (by omega)).mp k).symm
theorem v_lt {V : Nat} (hV : V < 2 ^ 31) (c : nI V - 1 < 0) : V = 0 := by
  rcases (show V = 0 ∨ ∃ k, V = k + 1 from (by
    cases V with
    | zero => exact Or.inl rfl
    | succ n => exact Or.inr ⟨n, rfl⟩)) with z | ⟨k, z⟩
  · exact z
  · rw [z, nI_pred] at c
    exact absurd c (nI_pos (by omega))
theorem v_ge {V : Nat} (c : ¬ nI V - 1 < 0) : 0 < V := by
  rcases (show V = 0 ∨ 0 < V by omega) with z | z
  · rw [z] at c
    exact absurd (by decide) c
  · exact z
theorem fz_W.pick {g : GG} {A : Nat → Prop} {s : State} {ws ws1 : va_W} {H : Heap} {locs : List Loc} (hW : fz_W g A s ws H locs) (is : List Nat) (h : is.map (fun i => ws[i]?) = ws1.map some) (hn : va_nd is = true) : fz_W g A s ws1 H locs := ⟨fz_P.pick hW.1 is h, hW.2.1.sub is hn h, hW.2.2⟩
set_option maxHeartbeats 8000000 in
set_option maxRecDepth 100000 in
theorem c_L_step (l : Launch) (g : GG) (r : Nat → Nat) (x : LV) (v : SV) (y b : Int32) (T : Nat) (hr : Rel v y x) (hi : Inv v T) (hT : T + 1 < 2 ^ 20) : fz_CK l g yL_step cL_step 16 (some .int) 1 1 48 27 [.int b, .ref (r 0), .ref (r 1), .ref (r 2), .ref (r 3), .ref (r 4), .ref (r 5), .ref (r 6)] (RW g r x) (fun W1 => ∃ x1 : LV, W1 = RW g r x1 ∧ Rel (psV v b) y x1 ∧ Inv (psV v b) (T + 1)) (some (.int (psA v b).1)) := by
  refine fz_CK.of (by decide) (Nat.le_of_ble_eq_true rfl) ?_
  intro p e s m args below meth c A ls X hW hl
  have hx := X.1
  have hb := X.2.1
  have hl : lv_has ls 16 [(0, .int b), (1, .ref (r 0)), (2, .ref (r 1)), (3, .ref (r 2)), (4, .ref (r 3)), (5, .ref (r 4)), (6, .ref (r 5)), (7, .ref (r 6))] := hl
  have X : fz_X p s m meth c RL cL_step 16 (some .int) g A := X
  have hW : fz_W g A s (RW g r x) s.heap [] := hW
  refine lv_iload_n hx hb dL_step_0 rfl (lv_at hl 0 rfl) ?_
  refine fz_top (x' := b - nI 0 * 2) (i_00 b).symm ?_
  refine lv_istore (lv' := [(8, .int (b - nI 0 * 2)), (0, .int b), (1, .ref (r 0)), (2, .ref (r 1)), (3, .ref (r 2)), (4, .ref (r 3)), (5, .ref (r 4)), (6, .ref (r 5)), (7, .ref (r 6))]) hx hb dL_step_1 hl (by decide) rfl (fun ls hl => ?_)
  have loop3 : ∀ (k : Nat) (kr : Nat) (v' : SV) (told : Nat) (x' : LV), kr < k → v'.wm = told + kr → Rel (fgV v' told) y x' → Inv (fgV v' told) T → tlF b v 0 v.wm = tlF b v' told kr → ∀ (H : Heap) (locs : List Loc) (ls : Array Slot), fz_W g A s (RW g r x') H locs → lv_has ls 16 [(0, .int b), (1, .ref (r 0)), (2, .ref (r 1)), (3, .ref (r 2)), (4, .ref (r 3)), (5, .ref (r 4)), (6, .ref (r 5)), (7, .ref (r 6)), (8, .int (b - nI told * 2))] → W p l e (fz_R 1 1 48 27) s m args below meth c H locs 0 0 (MQ below (fz_QK g (fun W1 => ∃ x1 : LV, W1 = RW g r x1 ∧ Rel (psV v b) y x1 ∧ Inv (psV v b) (T + 1)) (some (.int (psA v b).1)) A) args s 1 48 A) (F0 m 3 ls []) := by
    intro k
    induction k with
    | zero =>
      intro kr v' told x' hk
      omega
    | succ k ih3 =>
      intro kr v' told x' hk hw1 hr1 hi1 hE H locs ls hW hl
      have eg2 : x'.gg 2 = nI kr := by
        have k := hr1.2.2.2.2.2.2.2.2.2.1
        rw [k]
        show nI (v'.wm - told) = nI kr
        rw [show v'.wm - told = kr by omega]
      have kr4 : kr ≤ 4 := by
        have : v'.wm - told ≤ 4 := hi1.1.1
        omega
      refine lv_aload hx hb dL_step_3 (lv_at hl 7 rfl) ?_
      refine lv_iconst (v := 2) hx hb dL_step_5 (by decide) ?_
      refine fz_il X hW 6 (2) rfl rfl (by omega) (by decide) dL_step_6 ?_
      have join100 : ∀ (u9 : Unit), tlF b v 0 v.wm = (told, v') → ∀ (H : Heap) (locs : List Loc) (ls : Array Slot), fz_W g A s (RW g r x') H locs → lv_has ls 16 [(0, .int b), (1, .ref (r 0)), (2, .ref (r 1)), (3, .ref (r 2)), (4, .ref (r 3)), (5, .ref (r 4)), (6, .ref (r 5)), (7, .ref (r 6)), (8, .int (b - nI told * 2))] → W p l e (fz_R 1 1 48 27) s m args below meth c H locs 0 0 (MQ below (fz_QK g (fun W1 => ∃ x1 : LV, W1 = RW g r x1 ∧ Rel (psV v b) y x1 ∧ Inv (psV v b) (T + 1)) (some (.int (psA v b).1)) A) args s 1 48 A) (F0 m 100 ls []) := by
        intro u9 hEx H locs ls hW hl
        obtain ⟨N, hNT, eN, -⟩ := hi1.1.2.2.2.2.2.2.2.2.1
        have hT20 := hi1.1.2.2.2.2.2.2.2.2.2
        have eg0 : x'.gg 0 = nI N := hr1.2.2.2.2.2.2.2.1.trans eN
        have eg1 : x'.gg 1 = nI (fgV v' told).la := hr1.2.2.2.2.2.2.2.2.1
        refine lv_bipush (v := 48) hx hb dL_step_100 (by decide) ?_
        refine fz_ni X hW (atype := .int) (ty := .int) rfl ar_i 0 rfl (fun _ _ h => h) (N' := 48) (a0 := (48, .inl (fun _ => 0))) (fun _ => rfl) (by decide) rfl (Nat.le_of_ble_eq_true rfl) (Nat.le_of_ble_eq_true rfl) (Nat.le_of_ble_eq_true rfl) dL_step_102 (fun q H hW => ?_)
        have hW : fz_W g A s (RO g r x' q (fun _ => 0)) H _ := hW
        refine lv_astore (lv' := [(9, .ref q), (0, .int b), (1, .ref (r 0)), (2, .ref (r 1)), (3, .ref (r 2)), (4, .ref (r 3)), (5, .ref (r 4)), (6, .ref (r 5)), (7, .ref (r 6)), (8, .int (b - nI told * 2))]) hx hb dL_step_104 hl (by decide) rfl (fun ls hl => ?_)
        have join246 : ∀ (mny : Nat) (o : Nat → Int32), ((fgV v' told).wm = 0 → srt (woI (fgV v' told)) (unl (fgV v' told)) o mny 48) → (¬ (fgV v' told).wm = 0 → mny = 0) → mny ≤ 48 → ∀ (H : Heap) (locs : List Loc) (ls : Array Slot), fz_W g A s (RO g r x' q o) H locs → lv_has ls 16 [(0, .int b), (1, .ref (r 0)), (2, .ref (r 1)), (3, .ref (r 2)), (4, .ref (r 3)), (5, .ref (r 4)), (6, .ref (r 5)), (7, .ref (r 6)), (8, .int (b - nI told * 2)), (9, .ref q), (10, .int (nI mny))] → W p l e (fz_R 1 1 48 27) s m args below meth c H locs 1 48 (MQ below (fz_QK g (fun W1 => ∃ x1 : LV, W1 = RW g r x1 ∧ Rel (psV v b) y x1 ∧ Inv (psV v b) (T + 1)) (some (.int (psA v b).1)) A) args s 1 48 A) (F0 m 246 ls []) := by
          intro mny o hs hz h48 H locs ls hW hl
          refine lv_iconst (v := 0) hx hb dL_step_246 (by decide) ?_
          refine lv_istore (lv' := [(11, .int 0), (0, .int b), (1, .ref (r 0)), (2, .ref (r 1)), (3, .ref (r 2)), (4, .ref (r 3)), (5, .ref (r 4)), (6, .ref (r 5)), (7, .ref (r 6)), (8, .int (b - nI told * 2)), (9, .ref q), (10, .int (nI mny))]) hx hb dL_step_247 hl (by decide) rfl (fun ls hl => ?_)
          have loop249 : ∀ (k : Nat) (pp : Nat) (C : Int32) (S : LV), pp ≤ mny → mny < pp + k → sndL x' o (b - nI told * 2) pp = (C, S) → ∀ (H : Heap) (locs : List Loc) (ls : Array Slot), fz_W g A s (RO g r S q o) H locs → lv_has ls 16 [(0, .int b), (1, .ref (r 0)), (2, .ref (r 1)), (3, .ref (r 2)), (4, .ref (r 3)), (5, .ref (r 4)), (6, .ref (r 5)), (7, .ref (r 6)), (8, .int C), (9, .ref q), (10, .int (nI mny)), (11, .int (nI pp))] → W p l e (fz_R 1 1 48 27) s m args below meth c H locs 1 48 (MQ below (fz_QK g (fun W1 => ∃ x1 : LV, W1 = RW g r x1 ∧ Rel (psV v b) y x1 ∧ Inv (psV v b) (T + 1)) (some (.int (psA v b).1)) A) args s 1 48 A) (F0 m 249 ls []) := by
            intro k
            induction k with
            | zero =>
              intro pp C S hp hk
              omega
            | succ k ih249 =>
              intro pp C S hp hk hS H locs ls hW hl
              refine lv_iload hx hb dL_step_249 (lv_at hl 11 rfl) ?_
              refine lv_iload hx hb dL_step_251 (lv_at hl 10 rfl) ?_
              refine lv_icmp_ge (tgt := 444) hx hb dL_step_253 (by decide) (fun c253 => ?_) (fun c253 => ?_)
              · skip
                have h253 : mny ≤ pp := (nI_leI (a := mny) (b := pp) (by omega) (by omega)).mp c253
                have e253 : pp = mny := by omega
                obtain ⟨hA1, hA2, hA3⟩ := ps_end (C := C) (S := S) (n := mny) hEx hr1 hi1 hs hz (by rw [← e253]; exact hS)
                refine lv_aload hx hb dL_step_444 (lv_at hl 7 rfl) ?_
                refine lv_iconst (v := 0) hx hb dL_step_446 (by decide) ?_
                refine lv_dup2_11 hx hb dL_step_447 rfl rfl ?_
                refine fz_il X hW 6 (0) rfl rfl (by omega) (by decide) dL_step_448 ?_
                refine lv_iconst (v := 1) hx hb dL_step_449 (by decide) ?_
                refine lv_iadd hx hb dL_step_450 ?_
                refine fz_is X hW 6 (0) rfl rfl (by omega) (by decide) dL_step_451 (fun H locs hW => ?_)
                have hW : fz_W g A s (RO g r (S.ggS (upd S.gg 0 (S.gg 0 + 1))) q o) H locs := hW
                refine lv_iconst (v := 0) hx hb dL_step_452 (by decide) ?_
                refine lv_istore (lv' := [(11, .int 0), (0, .int b), (1, .ref (r 0)), (2, .ref (r 1)), (3, .ref (r 2)), (4, .ref (r 3)), (5, .ref (r 4)), (6, .ref (r 5)), (7, .ref (r 6)), (8, .int C), (9, .ref q), (10, .int (nI mny))]) hx hb dL_step_453 hl (by decide) rfl (fun ls hl => ?_)
                have loop455 : ∀ (k : Nat) (i : Nat), i ≤ 48 → 48 < i + k → ∀ (H : Heap) (locs : List Loc) (ls : Array Slot), fz_W g A s (RO g r ((S.ggS (upd S.gg 0 (S.gg 0 + 1))).hS (fz_to (fun t => (S.h t - S.h t / 128 * 128) * 2) S.h i)) q o) H locs → lv_has ls 16 [(0, .int b), (1, .ref (r 0)), (2, .ref (r 1)), (3, .ref (r 2)), (4, .ref (r 3)), (5, .ref (r 4)), (6, .ref (r 5)), (7, .ref (r 6)), (8, .int C), (11, .int (nI i))] → W p l e (fz_R 1 1 48 27) s m args below meth c H locs 1 48 (MQ below (fz_QK g (fun W1 => ∃ x1 : LV, W1 = RW g r x1 ∧ Rel (psV v b) y x1 ∧ Inv (psV v b) (T + 1)) (some (.int (psA v b).1)) A) args s 1 48 A) (F0 m 455 ls []) := by
                  intro k
                  induction k with
                  | zero =>
                    intro i hi hk
                    omega
                  | succ k ih455 =>
                    intro i hi hki H locs ls hW hl
                    refine lv_iload hx hb dL_step_455 (lv_at hl 9 rfl) ?_
                    refine lv_bipush (v := 48) hx hb dL_step_457 (by decide) ?_
                    refine lv_icmp_ge (tgt := 484) hx hb dL_step_459 (by decide) (fun c459 => ?_) (fun c459 => ?_)
                    · skip
                      have h459 : 48 ≤ i := (nI_leI (a := 48) (b := i) (by omega) (by omega)).mp c459
                      have e459 : i = 48 := by omega
                      have hl := lv_sub hl [0, 1, 2, 3, 4, 5, 6, 7, 8] rfl
                      have hl : lv_has ls 16 [(0, .int b), (1, .ref (r 0)), (2, .ref (r 1)), (3, .ref (r 2)), (4, .ref (r 3)), (5, .ref (r 4)), (6, .ref (r 5)), (7, .ref (r 6)), (8, .int C)] := hl
                      have hW : fz_W g A s (RW g r (fnL S)) H locs := fz_W.pick (fz_cast (show _ = RO g r (fnL S) q o by rw [e459]; rfl) hW) [0, 1, 2, 3, 4, 5, 6] rfl rfl
                      refine lv_iload_n hx hb dL_step_484 rfl (lv_at hl 0 rfl) ?_
                      refine lv_iload hx hb dL_step_485 (lv_at hl 8 rfl) ?_
                      refine lv_isub hx hb dL_step_487 ?_
                      exact fz_rK X hW (⟨fnL S, rfl, (rel_fin hA1 hA2 hT (psA v b).1).1, (rel_fin hA1 hA2 hT (psA v b).1).2⟩) (hA3) ⟨Nat.le_of_ble_eq_true rfl, Nat.le_of_ble_eq_true rfl⟩ dL_step_488
                    · skip
                      have h459 : i < 48 := Nat.not_le.mp (fun z => c459 ((nI_leI (a := 48) (b := i) (by omega) (by omega)).mpr z))
                      refine lv_aload hx hb dL_step_462 (lv_at hl 4 rfl) ?_
                      refine lv_iload hx hb dL_step_464 (lv_at hl 9 rfl) ?_
                      refine lv_aload hx hb dL_step_466 (lv_at hl 4 rfl) ?_
                      refine lv_iload hx hb dL_step_468 (lv_at hl 9 rfl) ?_
                      refine fz_il X hW 3 (i) rfl rfl (by omega) (by decide) dL_step_470 ?_
                      refine lv_sipush (v := 128) hx hb dL_step_471 (by decide) ?_
                      refine lv_irem hx hb dL_step_474 (by decide) ?_
                      refine lv_iconst (v := 2) hx hb dL_step_475 (by decide) ?_
                      refine lv_imul hx hb dL_step_476 ?_
                      refine fz_is X hW 3 (i) rfl rfl (by omega) (by decide) dL_step_477 (fun H locs hW => ?_)
                      refine lv_iinc (v := nI (i + 1)) (lv' := [(11, .int (nI (i + 1))), (0, .int b), (1, .ref (r 0)), (2, .ref (r 1)), (3, .ref (r 2)), (4, .ref (r 3)), (5, .ref (r 4)), (6, .ref (r 5)), (7, .ref (r 6)), (8, .int C)]) hx hb dL_step_478 hl (k := 9) rfl (nI_1 _) (by decide) rfl (fun ls hl => ?_)
                      refine lv_goto (tgt := 455) hx hb dL_step_481 (by decide) ?_
                      exact ih455 (i + 1) (by omega) (by omega) _ _ _ (fz_cast (congrArg (fun z => RO g r ((S.ggS (upd S.gg 0 (S.gg 0 + 1))).hS z) q o) (fz_to_s (fun t => (S.h t - S.h t / 128 * 128) * 2) S.h i (by
                        show (fz_to (fun t => (S.h t - S.h t / 128 * 128) * 2) S.h i i - fz_to (fun t => (S.h t - S.h t / 128 * 128) * 2) S.h i i / 128 * 128) * 2 = _
                        rw [fz_to_ge (Nat.le_refl _)]))) hW) (lv_sub hl [1, 2, 3, 4, 5, 6, 7, 8, 9, 0] rfl)
                exact loop455 (48 + 1) 0 (by omega) (by omega) _ _ _ (fz_cast (congrArg (fun z => RO g r ((S.ggS (upd S.gg 0 (S.gg 0 + 1))).hS z) q o) (fz_to_0 (fun t => (S.h t - S.h t / 128 * 128) * 2) S.h).symm) hW) (lv_sub hl [1, 2, 3, 4, 5, 6, 7, 8, 9, 0] rfl)
              · skip
                have h253 : pp < mny := Nat.not_le.mp (fun z => c253 ((nI_leI (a := mny) (b := pp) (by omega) (by omega)).mpr z))
                have hwm : (fgV v' told).wm = 0 := Classical.byContradiction (fun z => by have := hz z; omega)
                obtain ⟨t9, ht9, et9, hu9⟩ := (hs hwm).1 pp h253
                have eo9 : (o pp).toNatClampNeg = t9 := by rw [et9]; exact nI_clamp (by omega)
                obtain ⟨ks1, ks2, -⟩ := snd_keep x' o (b - nI told * 2) pp
                rw [hS] at ks1 ks2
                have ks1 : S.n = x'.n := ks1
                have ks2 : S.h = x'.h := ks2
                have hSn : ∃ k, k < 256 ∧ S.n t9 = nI k := by rw [ks1, hr1.1 t9 ht9]; exact hi1.1.2.2.2.2.1 t9 ht9
                have hSh : ∃ k, k < 256 ∧ S.h t9 = nI k := by rw [ks2, hr1.2.2.2.1 t9 ht9]; exact hi1.1.2.2.2.2.2.2.1 t9 ht9
                refine lv_aload hx hb dL_step_256 (lv_at hl 9 rfl) ?_
                refine lv_iload hx hb dL_step_258 (lv_at hl 11 rfl) ?_
                refine fz_il X hW 7 (pp) rfl rfl (by omega) (by decide) dL_step_260 ?_
                refine fz_top (x' := nI t9) et9 ?_
                refine lv_istore (lv' := [(12, .int (nI t9)), (0, .int b), (1, .ref (r 0)), (2, .ref (r 1)), (3, .ref (r 2)), (4, .ref (r 3)), (5, .ref (r 4)), (6, .ref (r 5)), (7, .ref (r 6)), (8, .int C), (9, .ref q), (10, .int (nI mny)), (11, .int (nI pp))]) hx hb dL_step_261 hl (by decide) rfl (fun ls hl => ?_)
                refine lv_aload_n hx hb dL_step_263 rfl (lv_at hl 2 rfl) ?_
                refine lv_iload hx hb dL_step_264 (lv_at hl 0 rfl) ?_
                refine fz_il X hW 0 (t9) rfl rfl (by omega) (by decide) dL_step_266 ?_
                refine lv_aload hx hb dL_step_267 (lv_at hl 7 rfl) ?_
                refine lv_iconst (v := 1) hx hb dL_step_269 (by decide) ?_
                refine fz_cSi X hW (fz_C.k8 (c_L_meetA l g (r 5) S.kn (S.n t9))) lk_L_20 rfl ⟨Nat.le_of_ble_eq_true rfl, Nat.le_of_ble_eq_true rfl⟩ hl rfl (Nat.le_of_ble_eq_true rfl) dL_step_270 ⟨Nat.le_of_ble_eq_true rfl, Nat.le_of_ble_eq_true rfl⟩ (fun H locs hW => ?_)
                have hW : fz_W g A s (RO g r S q o) H locs := hW
                refine lv_iconst (v := 1) hx hb dL_step_273 (by decide) ?_
                have join298 : ∀ (w9 : Nat), w9 = wtN S t9 → ∀ (H : Heap) (locs : List Loc) (ls : Array Slot), fz_W g A s (RO g r S q o) H locs → lv_has ls 16 [(12, .int (nI t9)), (0, .int b), (1, .ref (r 0)), (2, .ref (r 1)), (3, .ref (r 2)), (4, .ref (r 3)), (5, .ref (r 4)), (6, .ref (r 5)), (7, .ref (r 6)), (8, .int C), (9, .ref q), (10, .int (nI mny)), (11, .int (nI pp))] → W p l e (fz_R 1 1 48 27) s m args below meth c H locs 1 48 (MQ below (fz_QK g (fun W1 => ∃ x1 : LV, W1 = RW g r x1 ∧ Rel (psV v b) y x1 ∧ Inv (psV v b) (T + 1)) (some (.int (psA v b).1)) A) args s 1 48 A) (F0 m 298 ls [.int (nI w9)]) := by
                  intro w9 hw9 H locs ls hW hl
                  have w9b := wt_3 S t9
                  rw [← hw9] at w9b
                  have w94 : w9 ≤ 3 := by omega
                  refine lv_istore (lv' := [(13, .int (nI w9)), (12, .int (nI t9)), (0, .int b), (1, .ref (r 0)), (2, .ref (r 1)), (3, .ref (r 2)), (4, .ref (r 3)), (5, .ref (r 4)), (6, .ref (r 5)), (7, .ref (r 6)), (8, .int C), (9, .ref q), (10, .int (nI mny)), (11, .int (nI pp))]) hx hb dL_step_298 hl (by decide) rfl (fun ls hl => ?_)
                  refine lv_iload hx hb dL_step_300 (lv_at hl 0 rfl) ?_
                  refine lv_iconst (v := 3) hx hb dL_step_302 (by decide) ?_
                  have join329 : ∀ (z9 : Int32), z9 = coL S t9 → ∀ (H : Heap) (locs : List Loc) (ls : Array Slot), fz_W g A s (RO g r S q o) H locs → lv_has ls 16 [(13, .int (nI w9)), (12, .int (nI t9)), (0, .int b), (1, .ref (r 0)), (2, .ref (r 1)), (3, .ref (r 2)), (4, .ref (r 3)), (5, .ref (r 4)), (6, .ref (r 5)), (7, .ref (r 6)), (8, .int C), (9, .ref q), (10, .int (nI mny)), (11, .int (nI pp))] → W p l e (fz_R 1 1 48 27) s m args below meth c H locs 1 48 (MQ below (fz_QK g (fun W1 => ∃ x1 : LV, W1 = RW g r x1 ∧ Rel (psV v b) y x1 ∧ Inv (psV v b) (T + 1)) (some (.int (psA v b).1)) A) args s 1 48 A) (F0 m 329 ls [.int z9]) := by
                    intro z9 hz9 H locs ls hW hl
                    refine lv_istore (lv' := [(14, .int z9), (13, .int (nI w9)), (12, .int (nI t9)), (0, .int b), (1, .ref (r 0)), (2, .ref (r 1)), (3, .ref (r 2)), (4, .ref (r 3)), (5, .ref (r 4)), (6, .ref (r 5)), (7, .ref (r 6)), (8, .int C), (9, .ref q), (10, .int (nI mny)), (11, .int (nI pp))]) hx hb dL_step_329 hl (by decide) rfl (fun ls hl => ?_)
                    refine lv_iload hx hb dL_step_331 (lv_at hl 0 rfl) ?_
                    refine lv_iload hx hb dL_step_333 (lv_at hl 11 rfl) ?_
                    refine lv_icmp_gt (tgt := 438) hx hb dL_step_335 (by decide) (fun c335 => ?_) (fun c335 => ?_)
                    · skip
                      have c335 : C < coL S t9 := by rw [← hz9]; exact c335
                      have hN9 : sndL x' o (b - nI told * 2) (pp + 1) = (C, S) := by
                        rw [snd_s hS eo9]
                        have : sxR S t9 C = (0, S) := if_pos c335
                        rw [this]
                        show (C - 0, S) = _
                        rw [Int32.sub_zero]
                      refine lv_iinc (v := nI (pp + 1)) (lv' := [(11, .int (nI (pp + 1))), (14, .int z9), (13, .int (nI w9)), (12, .int (nI t9)), (0, .int b), (1, .ref (r 0)), (2, .ref (r 1)), (3, .ref (r 2)), (4, .ref (r 3)), (5, .ref (r 4)), (6, .ref (r 5)), (7, .ref (r 6)), (8, .int C), (9, .ref q), (10, .int (nI mny))]) hx hb dL_step_438 hl (k := 14) rfl (nI_1 _) (by decide) rfl (fun ls hl => ?_)
                      refine lv_goto (tgt := 249) hx hb dL_step_441 (by decide) ?_
                      exact ih249 (pp + 1) C S (by omega) (by omega) hN9 _ _ _ (fz_cast (rfl) hW) (lv_sub hl [4, 5, 6, 7, 8, 9, 10, 11, 12, 13, 14, 0] rfl)
                    · skip
                      have c335 : ¬ C < coL S t9 := by rw [← hz9]; exact c335
                      refine lv_iload hx hb dL_step_338 (lv_at hl 1 rfl) ?_
                      refine lv_iconst (v := 2) hx hb dL_step_340 (by decide) ?_
                      have join365 : ∀ (u9 : Unit), ¬ (w9 = 2 ∧ S.f t9 = 1000 + S.n t9 / 16) → ∀ (ls : Array Slot), lv_has ls 16 [(14, .int z9), (13, .int (nI w9)), (12, .int (nI t9)), (0, .int b), (1, .ref (r 0)), (2, .ref (r 1)), (3, .ref (r 2)), (4, .ref (r 3)), (5, .ref (r 4)), (6, .ref (r 5)), (7, .ref (r 6)), (8, .int C), (9, .ref q), (10, .int (nI mny)), (11, .int (nI pp))] → W p l e (fz_R 1 1 48 27) s m args below meth c H locs 1 48 (MQ below (fz_QK g (fun W1 => ∃ x1 : LV, W1 = RW g r x1 ∧ Rel (psV v b) y x1 ∧ Inv (psV v b) (T + 1)) (some (.int (psA v b).1)) A) args s 1 48 A) (F0 m 365 ls []) := by
                        intro u9 hgo ls hl
                        refine lv_iload hx hb dL_step_365 (lv_at hl 11 rfl) ?_
                        refine lv_iload hx hb dL_step_367 (lv_at hl 0 rfl) ?_
                        refine lv_isub hx hb dL_step_369 ?_
                        refine lv_istore (lv' := [(8, .int (C - z9)), (14, .int z9), (13, .int (nI w9)), (12, .int (nI t9)), (0, .int b), (1, .ref (r 0)), (2, .ref (r 1)), (3, .ref (r 2)), (4, .ref (r 3)), (5, .ref (r 4)), (6, .ref (r 5)), (7, .ref (r 6)), (9, .ref q), (10, .int (nI mny)), (11, .int (nI pp))]) hx hb dL_step_370 hl (by decide) rfl (fun ls hl => ?_)
                        refine lv_aload_n hx hb dL_step_372 rfl (lv_at hl 6 rfl) ?_
                        refine lv_iload hx hb dL_step_373 (lv_at hl 3 rfl) ?_
                        refine lv_iload hx hb dL_step_375 (lv_at hl 2 rfl) ?_
                        refine lv_iconst (v := 2) hx hb dL_step_377 (by decide) ?_
                        have join399 : ∀ (y9 : Int32), y9 = (if w9 = 2 then 1000 + S.n t9 / 16 else S.n t9) → ∀ (ls : Array Slot), lv_has ls 16 [(8, .int (C - z9)), (14, .int z9), (13, .int (nI w9)), (12, .int (nI t9)), (0, .int b), (1, .ref (r 0)), (2, .ref (r 1)), (3, .ref (r 2)), (4, .ref (r 3)), (5, .ref (r 4)), (6, .ref (r 5)), (7, .ref (r 6)), (9, .ref q), (10, .int (nI mny)), (11, .int (nI pp))] → W p l e (fz_R 1 1 48 27) s m args below meth c H locs 1 48 (MQ below (fz_QK g (fun W1 => ∃ x1 : LV, W1 = RW g r x1 ∧ Rel (psV v b) y x1 ∧ Inv (psV v b) (T + 1)) (some (.int (psA v b).1)) A) args s 1 48 A) (F0 m 399 ls [.int y9, .int (nI t9), .ref (r 1)]) := by
                          intro y9 hy9 ls hl
                          refine fz_is X hW 1 (t9) rfl rfl (by omega) (by decide) dL_step_399 (fun H locs hW => ?_)
                          have hW : fz_W g A s (RO g r (sxF S t9) q o) H locs := fz_cast (by unfold sxF; rw [← hw9, ← hy9]; first | done | rfl) hW
                          refine lv_iload hx hb dL_step_400 (lv_at hl 2 rfl) ?_
                          refine lv_iconst (v := 2) hx hb dL_step_402 (by decide) ?_
                          have join417 : ∀ (u9 : Unit), ∀ (H : Heap) (locs : List Loc) (ls : Array Slot), fz_W g A s (RO g r (sxK S t9) q o) H locs → lv_has ls 16 [(8, .int (C - z9)), (14, .int z9), (13, .int (nI w9)), (12, .int (nI t9)), (0, .int b), (1, .ref (r 0)), (2, .ref (r 1)), (3, .ref (r 2)), (4, .ref (r 3)), (5, .ref (r 4)), (6, .ref (r 5)), (7, .ref (r 6)), (9, .ref q), (10, .int (nI mny)), (11, .int (nI pp))] → W p l e (fz_R 1 1 48 27) s m args below meth c H locs 1 48 (MQ below (fz_QK g (fun W1 => ∃ x1 : LV, W1 = RW g r x1 ∧ Rel (psV v b) y x1 ∧ Inv (psV v b) (T + 1)) (some (.int (psA v b).1)) A) args s 1 48 A) (F0 m 417 ls []) := by
                            intro u9 H locs ls hW hl
                            have hN9 : sndL x' o (b - nI told * 2) (pp + 1) = (C - z9, sxV S t9) := by
                              rw [snd_s hS eo9]
                              have : sxR S t9 C = (coL S t9, sxV S t9) := (if_neg c335).trans (if_neg (by rw [← hw9]; exact hgo))
                              rw [this, hz9]
                              first | done | rfl
                            refine lv_iload hx hb dL_step_417 (lv_at hl 3 rfl) ?_
                            refine lv_aload_n hx hb dL_step_419 rfl (lv_at hl 5 rfl) ?_
                            refine lv_aload_n hx hb dL_step_420 rfl (lv_at hl 6 rfl) ?_
                            refine lv_aload_n hx hb dL_step_421 rfl (lv_at hl 7 rfl) ?_
                            refine lv_aload hx hb dL_step_422 (lv_at hl 11 rfl) ?_
                            refine fz_cSv X hW (fz_C.r8 (c_L_like l g r (sxK S t9) t9 ht9)) lk_L_10 rfl ⟨Nat.le_of_ble_eq_true rfl, Nat.le_of_ble_eq_true rfl⟩ hl rfl (Nat.le_of_ble_eq_true rfl) dL_step_424 ⟨Nat.le_of_ble_eq_true rfl, Nat.le_of_ble_eq_true rfl⟩ (fun H locs hW => ?_)
                            generalize hL9 : lkV (sxK S t9) t9 = L9 at hW
                            refine lv_aload hx hb dL_step_427 (lv_at hl 11 rfl) ?_
                            refine lv_iconst (v := 4) hx hb dL_step_429 (by decide) ?_
                            refine lv_iload hx hb dL_step_430 (lv_at hl 2 rfl) ?_
                            refine lv_iadd hx hb dL_step_432 ?_
                            refine lv_dup2_11 hx hb dL_step_433 rfl rfl ?_
                            refine fz_il X hW 6 (4 + w9) rfl (nI_add 4 w9) (by omega) (by decide) dL_step_434 ?_
                            refine lv_iconst (v := 1) hx hb dL_step_435 (by decide) ?_
                            refine lv_iadd hx hb dL_step_436 ?_
                            refine fz_is X hW 6 (4 + w9) rfl (nI_add 4 w9) (by omega) (by decide) dL_step_437 (fun H locs hW => ?_)
                            have hW : fz_W g A s (RO g r (sxG L9 w9) q o) H locs := hW
                            refine lv_iinc (v := nI (pp + 1)) (lv' := [(11, .int (nI (pp + 1))), (8, .int (C - z9)), (14, .int z9), (13, .int (nI w9)), (12, .int (nI t9)), (0, .int b), (1, .ref (r 0)), (2, .ref (r 1)), (3, .ref (r 2)), (4, .ref (r 3)), (5, .ref (r 4)), (6, .ref (r 5)), (7, .ref (r 6)), (9, .ref q), (10, .int (nI mny))]) hx hb dL_step_438 hl (k := 14) rfl (nI_1 _) (by decide) rfl (fun ls hl => ?_)
                            refine lv_goto (tgt := 249) hx hb dL_step_441 (by decide) ?_
                            exact ih249 (pp + 1) (C - z9) (sxV S t9) (by omega) (by omega) hN9 _ _ _ (fz_cast (congrArg (fun z => RO g r z q o) (show sxG L9 w9 = sxV S t9 by rw [← hL9, hw9]; first | done | rfl)) hW) (lv_sub hl [5, 6, 7, 8, 9, 10, 11, 12, 1, 13, 14, 0] rfl)
                          refine lv_icmp_eq (tgt := 417) hx hb dL_step_403 (by decide) (fun c403 => ?_) (fun c403 => ?_)
                          · skip
                            have h403 : w9 = 2 := (nI_eq (b := 2) (by omega) (by omega)).mp c403
                            exact join417 () _ _ _ (fz_cast (congrArg (fun z => RO g r z q o) (by unfold sxK; rw [← hw9, if_pos h403]; first | done | rfl)) hW) (lv_sub hl [0, 1, 2, 3, 4, 5, 6, 7, 8, 9, 10, 11, 12, 13, 14] rfl)
                          · skip
                            have h403 : ¬ w9 = 2 := fun z => c403 (by rw [z]; rfl)
                            refine lv_aload_n hx hb dL_step_406 rfl (lv_at hl 5 rfl) ?_
                            refine lv_iload hx hb dL_step_407 (lv_at hl 3 rfl) ?_
                            refine fz_il X hW 0 (t9) rfl rfl (by omega) (by decide) dL_step_409 ?_
                            refine lv_aload hx hb dL_step_410 (lv_at hl 10 rfl) ?_
                            refine lv_iconst (v := 0) hx hb dL_step_412 (by decide) ?_
                            refine fz_cSi X hW (fz_C.k8 (c_L_meetT l g (r 5) (sxF S t9).kn (S.n t9))) lk_L_20 rfl ⟨Nat.le_of_ble_eq_true rfl, Nat.le_of_ble_eq_true rfl⟩ hl rfl (Nat.le_of_ble_eq_true rfl) dL_step_413 ⟨Nat.le_of_ble_eq_true rfl, Nat.le_of_ble_eq_true rfl⟩ (fun H locs hW => ?_)
                            refine lv_pop hx hb dL_step_416 rfl ?_
                            exact join417 () _ _ _ (fz_cast (congrArg (fun z => RO g r z q o) (by unfold sxK; rw [← hw9, if_neg h403]; first | done | rfl)) hW) (lv_sub hl [0, 1, 2, 3, 4, 5, 6, 7, 8, 9, 10, 11, 12, 13, 14] rfl)
                        refine lv_icmp_ne (tgt := 395) hx hb dL_step_378 (by decide) (fun c378 => ?_) (fun c378 => ?_)
                        · skip
                          have h378 : ¬ w9 = 2 := fun z => c378 (by rw [z]; rfl)
                          refine lv_aload_n hx hb dL_step_395 rfl (lv_at hl 5 rfl) ?_
                          refine lv_iload hx hb dL_step_396 (lv_at hl 3 rfl) ?_
                          refine fz_il X hW 0 (t9) rfl rfl (by omega) (by decide) dL_step_398 ?_
                          exact join399 (S.n t9) (if_neg h378).symm _ (lv_sub hl [0, 1, 2, 3, 4, 5, 6, 7, 8, 9, 10, 11, 12, 13, 14] rfl)
                        · skip
                          have h378 : w9 = 2 := (nI_eq (b := 2) (by omega) (by omega)).mp c378
                          refine lv_sipush (v := 1000) hx hb dL_step_381 (by decide) ?_
                          refine lv_aload_n hx hb dL_step_384 rfl (lv_at hl 5 rfl) ?_
                          refine lv_iload hx hb dL_step_385 (lv_at hl 3 rfl) ?_
                          refine fz_il X hW 0 (t9) rfl rfl (by omega) (by decide) dL_step_387 ?_
                          refine lv_bipush (v := 16) hx hb dL_step_388 (by decide) ?_
                          refine lv_idiv hx hb dL_step_390 (by decide) ?_
                          refine lv_iadd hx hb dL_step_391 ?_
                          refine lv_goto (tgt := 399) hx hb dL_step_392 (by decide) ?_
                          exact join399 (1000 + S.n t9 / 16) (if_pos h378).symm _ (lv_sub hl [0, 1, 2, 3, 4, 5, 6, 7, 8, 9, 10, 11, 12, 13, 14] rfl)
                      refine lv_icmp_ne (tgt := 365) hx hb dL_step_341 (by decide) (fun c341 => ?_) (fun c341 => ?_)
                      · skip
                        have h341 : ¬ w9 = 2 := fun z => c341 (by rw [z]; rfl)
                        exact join365 () (fun z => h341 z.1) _ (lv_sub hl [0, 1, 2, 3, 4, 5, 6, 7, 8, 9, 10, 11, 12, 13, 14] rfl)
                      · skip
                        have h341 : w9 = 2 := (nI_eq (b := 2) (by omega) (by omega)).mp c341
                        refine lv_aload_n hx hb dL_step_344 rfl (lv_at hl 5 rfl) ?_
                        refine lv_iload hx hb dL_step_345 (lv_at hl 2 rfl) ?_
                        refine fz_il X hW 1 (t9) rfl rfl (by omega) (by decide) dL_step_347 ?_
                        refine lv_sipush (v := 1000) hx hb dL_step_348 (by decide) ?_
                        refine lv_aload_n hx hb dL_step_351 rfl (lv_at hl 4 rfl) ?_
                        refine lv_iload hx hb dL_step_352 (lv_at hl 2 rfl) ?_
                        refine fz_il X hW 0 (t9) rfl rfl (by omega) (by decide) dL_step_354 ?_
                        refine lv_bipush (v := 16) hx hb dL_step_355 (by decide) ?_
                        refine lv_idiv hx hb dL_step_357 (by decide) ?_
                        refine lv_iadd hx hb dL_step_358 ?_
                        refine lv_icmp_ne (tgt := 365) hx hb dL_step_359 (by decide) (fun c359 => ?_) (fun c359 => ?_)
                        · skip
                          exact join365 () (fun z => c359 z.2) _ (lv_sub hl [0, 1, 2, 3, 4, 5, 6, 7, 8, 9, 10, 11, 12, 13, 14] rfl)
                        · skip
                          have hN9 : sndL x' o (b - nI told * 2) (pp + 1) = (C, S) := by
                            rw [snd_s hS eo9]
                            have : sxR S t9 C = (0, S) := (if_neg c335).trans (if_pos ⟨by rw [← hw9]; exact h341, c359⟩)
                            rw [this]
                            show (C - 0, S) = _
                            rw [Int32.sub_zero]
                          refine lv_goto (tgt := 438) hx hb dL_step_362 (by decide) ?_
                          refine lv_iinc (v := nI (pp + 1)) (lv' := [(11, .int (nI (pp + 1))), (14, .int z9), (13, .int (nI w9)), (12, .int (nI t9)), (0, .int b), (1, .ref (r 0)), (2, .ref (r 1)), (3, .ref (r 2)), (4, .ref (r 3)), (5, .ref (r 4)), (6, .ref (r 5)), (7, .ref (r 6)), (8, .int C), (9, .ref q), (10, .int (nI mny))]) hx hb dL_step_438 hl (k := 14) rfl (nI_1 _) (by decide) rfl (fun ls hl => ?_)
                          refine lv_goto (tgt := 249) hx hb dL_step_441 (by decide) ?_
                          exact ih249 (pp + 1) C S (by omega) (by omega) hN9 _ _ _ (fz_cast (rfl) hW) (lv_sub hl [4, 5, 6, 7, 8, 9, 10, 11, 12, 13, 14, 0] rfl)
                  refine lv_icmp_ge (tgt := 311) hx hb dL_step_303 (by decide) (fun c303 => ?_) (fun c303 => ?_)
                  · skip
                    have h303 : ¬ w9 < 3 := by
                      have := (nI_leI (a := 3) (b := w9) (by omega) (by omega)).mp c303
                      omega
                    refine lv_iload hx hb dL_step_311 (lv_at hl 1 rfl) ?_
                    refine lv_aload_n hx hb dL_step_313 rfl (lv_at hl 3 rfl) ?_
                    refine lv_aload hx hb dL_step_314 (lv_at hl 6 rfl) ?_
                    refine fz_cSi X hW (fz_C.r8 (c_L_kind l g r S t9 ht9 hSn hSh)) lk_L_24 rfl ⟨Nat.le_of_ble_eq_true rfl, Nat.le_of_ble_eq_true rfl⟩ hl rfl (Nat.le_of_ble_eq_true rfl) dL_step_316 ⟨Nat.le_of_ble_eq_true rfl, Nat.le_of_ble_eq_true rfl⟩ (fun H locs hW => ?_)
                    refine lv_iconst (v := 1) hx hb dL_step_319 (by decide) ?_
                    refine lv_icmp_ne (tgt := 328) hx hb dL_step_320 (by decide) (fun c320 => ?_) (fun c320 => ?_)
                    · skip
                      refine lv_iconst (v := 2) hx hb dL_step_328 (by decide) ?_
                      exact join329 2 (by unfold coL; rw [← hw9, if_neg h303, if_neg c320]) _ _ _ (fz_cast (rfl) hW) (lv_sub hl [0, 1, 2, 3, 4, 5, 6, 7, 8, 9, 10, 11, 12, 13] rfl)
                    · skip
                      refine lv_bipush (v := 6) hx hb dL_step_323 (by decide) ?_
                      refine lv_goto (tgt := 329) hx hb dL_step_325 (by decide) ?_
                      exact join329 6 (by unfold coL; rw [← hw9, if_neg h303, if_pos c320]) _ _ _ (fz_cast (rfl) hW) (lv_sub hl [0, 1, 2, 3, 4, 5, 6, 7, 8, 9, 10, 11, 12, 13] rfl)
                  · skip
                    have h303 : w9 < 3 := Nat.not_le.mp (fun z => c303 ((nI_leI (a := 3) (b := w9) (by omega) (by omega)).mpr z))
                    refine lv_iload hx hb dL_step_306 (lv_at hl 0 rfl) ?_
                    refine lv_goto (tgt := 329) hx hb dL_step_308 (by decide) ?_
                    exact join329 (nI w9) (by unfold coL; rw [← hw9, if_pos h303]) _ _ _ (fz_cast (rfl) hW) (lv_sub hl [0, 1, 2, 3, 4, 5, 6, 7, 8, 9, 10, 11, 12, 13] rfl)
                refine lv_icmp_ne (tgt := 281) hx hb dL_step_274 (by decide) (fun c274 => ?_) (fun c274 => ?_)
                · skip
                  refine lv_iload hx hb dL_step_281 (lv_at hl 0 rfl) ?_
                  refine lv_aload_n hx hb dL_step_283 rfl (lv_at hl 2 rfl) ?_
                  refine lv_aload hx hb dL_step_284 (lv_at hl 5 rfl) ?_
                  refine fz_cSi X hW (fz_C.r8 (c_L_kind l g r S t9 ht9 hSn hSh)) lk_L_24 rfl ⟨Nat.le_of_ble_eq_true rfl, Nat.le_of_ble_eq_true rfl⟩ hl rfl (Nat.le_of_ble_eq_true rfl) dL_step_286 ⟨Nat.le_of_ble_eq_true rfl, Nat.le_of_ble_eq_true rfl⟩ (fun H locs hW => ?_)
                  refine lv_iconst (v := 2) hx hb dL_step_289 (by decide) ?_
                  refine lv_icmp_ne (tgt := 297) hx hb dL_step_290 (by decide) (fun c290 => ?_) (fun c290 => ?_)
                  · skip
                    refine lv_iconst (v := 3) hx hb dL_step_297 (by decide) ?_
                    exact join298 3 (by unfold wtN; rw [if_neg c274, if_neg c290]) _ _ _ (fz_cast (rfl) hW) (lv_sub hl [0, 1, 2, 3, 4, 5, 6, 7, 8, 9, 10, 11, 12] rfl)
                  · skip
                    refine lv_iconst (v := 2) hx hb dL_step_293 (by decide) ?_
                    refine lv_goto (tgt := 298) hx hb dL_step_294 (by decide) ?_
                    exact join298 2 (by unfold wtN; rw [if_neg c274, if_pos c290]) _ _ _ (fz_cast (rfl) hW) (lv_sub hl [0, 1, 2, 3, 4, 5, 6, 7, 8, 9, 10, 11, 12] rfl)
                · skip
                  refine lv_iconst (v := 1) hx hb dL_step_277 (by decide) ?_
                  refine lv_goto (tgt := 298) hx hb dL_step_278 (by decide) ?_
                  exact join298 1 (by unfold wtN; rw [if_pos c274]) _ _ _ (fz_cast (rfl) hW) (lv_sub hl [0, 1, 2, 3, 4, 5, 6, 7, 8, 9, 10, 11, 12] rfl)
          exact loop249 (mny + 1) 0 (b - nI told * 2) x' (by omega) (by omega) rfl _ _ _ (fz_cast (rfl) hW) (lv_sub hl [1, 2, 3, 4, 5, 6, 7, 8, 9, 10, 11, 0] rfl)
        refine lv_iconst (v := 0) hx hb dL_step_106 (by decide) ?_
        refine lv_istore (lv' := [(10, .int 0), (9, .ref q), (0, .int b), (1, .ref (r 0)), (2, .ref (r 1)), (3, .ref (r 2)), (4, .ref (r 3)), (5, .ref (r 4)), (6, .ref (r 5)), (7, .ref (r 6)), (8, .int (b - nI told * 2))]) hx hb dL_step_107 hl (by decide) rfl (fun ls hl => ?_)
        refine lv_aload hx hb dL_step_109 (lv_at hl 9 rfl) ?_
        refine lv_iconst (v := 0) hx hb dL_step_111 (by decide) ?_
        refine fz_il X hW 6 (0) rfl rfl (by omega) (by decide) dL_step_112 ?_
        refine lv_iconst (v := 5) hx hb dL_step_113 (by decide) ?_
        refine lv_iadd hx hb dL_step_114 ?_
        refine fz_top (x' := nI (N + 6) - 1) (by rw [eg0]; show nI N + nI 5 = _; rw [nI_add, show N + 6 = (N + 5) + 1 by omega, nI_pred]) ?_
        refine lv_istore (lv' := [(11, .int (nI (N + 6) - 1)), (10, .int 0), (9, .ref q), (0, .int b), (1, .ref (r 0)), (2, .ref (r 1)), (3, .ref (r 2)), (4, .ref (r 3)), (5, .ref (r 4)), (6, .ref (r 5)), (7, .ref (r 6)), (8, .int (b - nI told * 2))]) hx hb dL_step_115 hl (by decide) rfl (fun ls hl => ?_)
        have loop117 : ∀ (k : Nat) (V mny : Nat) (o : Nat → Int32), V ≤ N + 6 → V < k → ((fgV v' told).wm = 0 → OrdC (fgV v' told) (OuC (fgV v' told) V) mny o) → (¬ (fgV v' told).wm = 0 → mny = 0) → mny ≤ 48 → ∀ (H : Heap) (locs : List Loc) (ls : Array Slot), fz_W g A s (RO g r x' q o) H locs → lv_has ls 16 [(0, .int b), (1, .ref (r 0)), (2, .ref (r 1)), (3, .ref (r 2)), (4, .ref (r 3)), (5, .ref (r 4)), (6, .ref (r 5)), (7, .ref (r 6)), (8, .int (b - nI told * 2)), (9, .ref q), (10, .int (nI mny)), (11, .int (nI V - 1))] → W p l e (fz_R 1 1 48 27) s m args below meth c H locs 1 48 (MQ below (fz_QK g (fun W1 => ∃ x1 : LV, W1 = RW g r x1 ∧ Rel (psV v b) y x1 ∧ Inv (psV v b) (T + 1)) (some (.int (psA v b).1)) A) args s 1 48 A) (F0 m 117 ls []) := by
          intro k
          induction k with
          | zero =>
            intro V mny o hV hk
            omega
          | succ k ih117 =>
            intro V mny o hV hk hO hZ h48 H locs ls hW hl
            refine lv_iload hx hb dL_step_117 (lv_at hl 11 rfl) ?_
            refine lv_if_lt (tgt := 246) hx hb dL_step_119 (by decide) (fun c119 => ?_) (fun c119 => ?_)
            · skip
              have hV0 : V = 0 := v_lt (by omega) c119
              exact join246 mny o (fun z => ord_end (by have k := hO z; rw [hV0] at k; exact k)) hZ h48 _ _ _ (fz_cast (rfl) hW) (lv_sub hl [0, 1, 2, 3, 4, 5, 6, 7, 8, 9, 10] rfl)
            · skip
              obtain ⟨W1, rfl⟩ : ∃ W1, V = W1 + 1 := ⟨V - 1, by
                have := v_ge (V := V) c119
                omega⟩
              have hl : lv_has ls 16 [(0, .int b), (1, .ref (r 0)), (2, .ref (r 1)), (3, .ref (r 2)), (4, .ref (r 3)), (5, .ref (r 4)), (6, .ref (r 5)), (7, .ref (r 6)), (8, .int (b - nI told * 2)), (9, .ref q), (10, .int (nI mny)), (11, .int (nI W1))] := by rw [← nI_pred W1]; exact hl
              refine lv_aload hx hb dL_step_122 (lv_at hl 7 rfl) ?_
              refine lv_iconst (v := 2) hx hb dL_step_124 (by decide) ?_
              refine fz_il X hW 6 (2) rfl rfl (by omega) (by decide) dL_step_125 ?_
              refine lv_if_ne (tgt := 246) hx hb dL_step_126 (by decide) (fun c126 => ?_) (fun c126 => ?_)
              · skip
                have hwm : ¬ (fgV v' told).wm = 0 := fun z => c126 (g2_0 hr1 z)
                exact join246 mny o (fun z => absurd z hwm) hZ h48 _ _ _ (fz_cast (rfl) hW) (lv_sub hl [0, 1, 2, 3, 4, 5, 6, 7, 8, 9, 10] rfl)
              · skip
                have hwm : (fgV v' told).wm = 0 := g2_n hr1 hi1.1 c126
                refine lv_iconst (v := 0) hx hb dL_step_129 (by decide) ?_
                refine lv_istore (lv' := [(12, .int 0), (0, .int b), (1, .ref (r 0)), (2, .ref (r 1)), (3, .ref (r 2)), (4, .ref (r 3)), (5, .ref (r 4)), (6, .ref (r 5)), (7, .ref (r 6)), (8, .int (b - nI told * 2)), (9, .ref q), (10, .int (nI mny)), (11, .int (nI W1))]) hx hb dL_step_130 hl (by decide) rfl (fun ls hl => ?_)
                have loop132 : ∀ (k : Nat) (i mny : Nat) (o : Nat → Int32), i ≤ 48 → 48 < i + k → OrdC (fgV v' told) (InC (fgV v' told) W1 i) mny o → mny ≤ 48 → ∀ (H : Heap) (locs : List Loc) (ls : Array Slot), fz_W g A s (RO g r x' q o) H locs → lv_has ls 16 [(0, .int b), (1, .ref (r 0)), (2, .ref (r 1)), (3, .ref (r 2)), (4, .ref (r 3)), (5, .ref (r 4)), (6, .ref (r 5)), (7, .ref (r 6)), (8, .int (b - nI told * 2)), (9, .ref q), (10, .int (nI mny)), (11, .int (nI W1)), (12, .int (nI i))] → W p l e (fz_R 1 1 48 27) s m args below meth c H locs 1 48 (MQ below (fz_QK g (fun W1 => ∃ x1 : LV, W1 = RW g r x1 ∧ Rel (psV v b) y x1 ∧ Inv (psV v b) (T + 1)) (some (.int (psA v b).1)) A) args s 1 48 A) (F0 m 132 ls []) := by
                  intro k
                  induction k with
                  | zero =>
                    intro i mny o hi48 hk
                    omega
                  | succ k ih132 =>
                    intro i mny o hi48 hk hI h48 H locs ls hW hl
                    refine lv_iload hx hb dL_step_132 (lv_at hl 12 rfl) ?_
                    refine lv_bipush (v := 48) hx hb dL_step_134 (by decide) ?_
                    refine lv_icmp_ge (tgt := 240) hx hb dL_step_136 (by decide) (fun c136 => ?_) (fun c136 => ?_)
                    · skip
                      have h136 : 48 ≤ i := (nI_leI (a := 48) (b := i) (by omega) (by omega)).mp c136
                      have e136 : i = 48 := by omega
                      have hl := lv_sub hl [0, 1, 2, 3, 4, 5, 6, 7, 8, 9, 10, 11] rfl
                      have hl : lv_has ls 16 [(0, .int b), (1, .ref (r 0)), (2, .ref (r 1)), (3, .ref (r 2)), (4, .ref (r 3)), (5, .ref (r 4)), (6, .ref (r 5)), (7, .ref (r 6)), (8, .int (b - nI told * 2)), (9, .ref q), (10, .int (nI mny)), (11, .int (nI W1))] := hl
                      refine lv_iinc (v := nI W1 - 1) (lv' := [(11, .int (nI W1 - 1)), (0, .int b), (1, .ref (r 0)), (2, .ref (r 1)), (3, .ref (r 2)), (4, .ref (r 3)), (5, .ref (r 4)), (6, .ref (r 5)), (7, .ref (r 6)), (8, .int (b - nI told * 2)), (9, .ref q), (10, .int (nI mny))]) hx hb dL_step_240 hl (k := 11) rfl (by grind) (by decide) rfl (fun ls hl => ?_)
                      refine lv_goto (tgt := 117) hx hb dL_step_243 (by decide) ?_
                      exact ih117 W1 mny o (by omega) (by omega) (fun _ => ord_out (by rw [e136] at hI; exact hI)) (fun z => absurd hwm z) h48 _ _ _ (fz_cast (rfl) hW) (lv_sub hl [1, 2, 3, 4, 5, 6, 7, 8, 9, 10, 11, 0] rfl)
                    · skip
                      have h136 : i < 48 := Nat.not_le.mp (fun z => c136 ((nI_leI (a := 48) (b := i) (by omega) (by omega)).mpr z))
                      refine lv_aload_n hx hb dL_step_139 rfl (lv_at hl 3 rfl) ?_
                      refine lv_iload hx hb dL_step_140 (lv_at hl 12 rfl) ?_
                      refine fz_il X hW 2 (i) rfl rfl (by omega) (by decide) dL_step_142 ?_
                      refine lv_if_ge (tgt := 149) hx hb dL_step_143 (by decide) (fun c143 => ?_) (fun c143 => ?_)
                      · skip
                        have hun : ¬ (fgV v' told).since i = -1 := (inv_ge hi1.1 (by omega)).mp (by rw [← hr1.2.2.1 i (by omega)]; exact c143)
                        refine lv_iload hx hb dL_step_149 (lv_at hl 12 rfl) ?_
                        refine lv_bipush (v := 8) hx hb dL_step_151 (by decide) ?_
                        refine lv_irem hx hb dL_step_153 (by decide) ?_
                        refine lv_aload hx hb dL_step_154 (lv_at hl 7 rfl) ?_
                        refine lv_iconst (v := 1) hx hb dL_step_156 (by decide) ?_
                        refine fz_il X hW 6 (1) rfl rfl (by omega) (by decide) dL_step_157 ?_
                        refine lv_bipush (v := 8) hx hb dL_step_158 (by decide) ?_
                        refine lv_irem hx hb dL_step_160 (by decide) ?_
                        refine lv_isub hx hb dL_step_161 ?_
                        refine fz_top (x' := acL (fgV v' told).la i) (by rw [eg1]; rfl) ?_
                        refine lv_istore (lv' := [(13, .int (acL (fgV v' told).la i)), (0, .int b), (1, .ref (r 0)), (2, .ref (r 1)), (3, .ref (r 2)), (4, .ref (r 3)), (5, .ref (r 4)), (6, .ref (r 5)), (7, .ref (r 6)), (8, .int (b - nI told * 2)), (9, .ref q), (10, .int (nI mny)), (11, .int (nI W1)), (12, .int (nI i))]) hx hb dL_step_162 hl (by decide) rfl (fun ls hl => ?_)
                        refine lv_iload hx hb dL_step_164 (lv_at hl 13 rfl) ?_
                        refine lv_bipush (v := 8) hx hb dL_step_166 (by decide) ?_
                        refine lv_idiv hx hb dL_step_168 (by decide) ?_
                        refine lv_aload hx hb dL_step_169 (lv_at hl 8 rfl) ?_
                        refine lv_iconst (v := 1) hx hb dL_step_171 (by decide) ?_
                        refine fz_il X hW 6 (1) rfl rfl (by omega) (by decide) dL_step_172 ?_
                        refine lv_bipush (v := 8) hx hb dL_step_173 (by decide) ?_
                        refine lv_idiv hx hb dL_step_175 (by decide) ?_
                        refine lv_isub hx hb dL_step_176 ?_
                        refine fz_top (x' := dnL (fgV v' told).la i) (by rw [eg1]; rfl) ?_
                        refine lv_istore (lv' := [(14, .int (dnL (fgV v' told).la i)), (13, .int (acL (fgV v' told).la i)), (0, .int b), (1, .ref (r 0)), (2, .ref (r 1)), (3, .ref (r 2)), (4, .ref (r 3)), (5, .ref (r 4)), (6, .ref (r 5)), (7, .ref (r 6)), (8, .int (b - nI told * 2)), (9, .ref q), (10, .int (nI mny)), (11, .int (nI W1)), (12, .int (nI i))]) hx hb dL_step_177 hl (by decide) rfl (fun ls hl => ?_)
                        refine lv_aload hx hb dL_step_179 (lv_at hl 9 rfl) ?_
                        refine lv_iconst (v := 0) hx hb dL_step_181 (by decide) ?_
                        refine fz_il X hW 6 (0) rfl rfl (by omega) (by decide) dL_step_182 ?_
                        refine lv_aload_n hx hb dL_step_183 rfl (lv_at hl 5 rfl) ?_
                        refine lv_iload hx hb dL_step_184 (lv_at hl 14 rfl) ?_
                        refine fz_il X hW 2 (i) rfl rfl (by omega) (by decide) dL_step_186 ?_
                        refine lv_isub hx hb dL_step_187 ?_
                        refine lv_iload hx hb dL_step_188 (lv_at hl 1 rfl) ?_
                        refine lv_iload hx hb dL_step_190 (lv_at hl 1 rfl) ?_
                        refine lv_imul hx hb dL_step_192 ?_
                        refine lv_iconst (v := 2) hx hb dL_step_193 (by decide) ?_
                        have join211 : ∀ (z : Int32), z = bonL (fgV v' told).la i → ∀ (ls : Array Slot), lv_has ls 16 [(14, .int (dnL (fgV v' told).la i)), (13, .int (acL (fgV v' told).la i)), (0, .int b), (1, .ref (r 0)), (2, .ref (r 1)), (3, .ref (r 2)), (4, .ref (r 3)), (5, .ref (r 4)), (6, .ref (r 5)), (7, .ref (r 6)), (8, .int (b - nI told * 2)), (9, .ref q), (10, .int (nI mny)), (11, .int (nI W1)), (12, .int (nI i))] → W p l e (fz_R 1 1 48 27) s m args below meth c H locs 1 48 (MQ below (fz_QK g (fun W1 => ∃ x1 : LV, W1 = RW g r x1 ∧ Rel (psV v b) y x1 ∧ Inv (psV v b) (T + 1)) (some (.int (psA v b).1)) A) args s 1 48 A) (F0 m 211 ls [.int z, .int ((x'.gg 0) - (x'.u i))]) := by
                          intro z hz ls hl
                          refine lv_iadd hx hb dL_step_211 ?_
                          refine fz_top (x' := nI (wNv (fgV v' told) i)) (by rw [hz]; exact wo_is hr1 hi1.1 eN hNT (by omega) hun) ?_
                          refine lv_istore (lv' := [(15, .int (nI (wNv (fgV v' told) i))), (14, .int (dnL (fgV v' told).la i)), (13, .int (acL (fgV v' told).la i)), (0, .int b), (1, .ref (r 0)), (2, .ref (r 1)), (3, .ref (r 2)), (4, .ref (r 3)), (5, .ref (r 4)), (6, .ref (r 5)), (7, .ref (r 6)), (8, .int (b - nI told * 2)), (9, .ref q), (10, .int (nI mny)), (11, .int (nI W1)), (12, .int (nI i))]) hx hb dL_step_212 hl (by decide) rfl (fun ls hl => ?_)
                          refine lv_iload hx hb dL_step_214 (lv_at hl 0 rfl) ?_
                          refine lv_iload hx hb dL_step_216 (lv_at hl 14 rfl) ?_
                          refine lv_icmp_eq (tgt := 224) hx hb dL_step_218 (by decide) (fun c218 => ?_) (fun c218 => ?_)
                          · skip
                            have hw9 : wNv (fgV v' told) i = W1 := by
                              have k := (wN_is hi1.1 eN hNT (by omega) hun).2
                              exact (nI_eq (by omega) (by omega)).mp c218
                            have hput := ord_put hi1.1 eN hNT hI (by omega) hun hw9
                            refine lv_aload hx hb dL_step_224 (lv_at hl 12 rfl) ?_
                            refine lv_iload hx hb dL_step_226 (lv_at hl 13 rfl) ?_
                            refine lv_iload hx hb dL_step_228 (lv_at hl 15 rfl) ?_
                            refine fz_is X hW 7 (mny) rfl rfl hput.1 (by decide) dL_step_230 (fun H locs hW => ?_)
                            refine lv_iinc (v := nI (mny + 1)) (lv' := [(10, .int (nI (mny + 1))), (15, .int (nI (wNv (fgV v' told) i))), (14, .int (dnL (fgV v' told).la i)), (13, .int (acL (fgV v' told).la i)), (0, .int b), (1, .ref (r 0)), (2, .ref (r 1)), (3, .ref (r 2)), (4, .ref (r 3)), (5, .ref (r 4)), (6, .ref (r 5)), (7, .ref (r 6)), (8, .int (b - nI told * 2)), (9, .ref q), (11, .int (nI W1)), (12, .int (nI i))]) hx hb dL_step_231 hl (k := 13) rfl (nI_1 _) (by decide) rfl (fun ls hl => ?_)
                            refine lv_iinc (v := nI (i + 1)) (lv' := [(12, .int (nI (i + 1))), (10, .int (nI (mny + 1))), (15, .int (nI (wNv (fgV v' told) i))), (14, .int (dnL (fgV v' told).la i)), (13, .int (acL (fgV v' told).la i)), (0, .int b), (1, .ref (r 0)), (2, .ref (r 1)), (3, .ref (r 2)), (4, .ref (r 3)), (5, .ref (r 4)), (6, .ref (r 5)), (7, .ref (r 6)), (8, .int (b - nI told * 2)), (9, .ref q), (11, .int (nI W1))]) hx hb dL_step_234 hl (k := 15) rfl (nI_1 _) (by decide) rfl (fun ls hl => ?_)
                            refine lv_goto (tgt := 132) hx hb dL_step_237 (by decide) ?_
                            exact ih132 (i + 1) (mny + 1) (upd o mny (nI i)) (by omega) (by omega) hput.2 (by omega) _ _ _ (fz_cast (rfl) hW) (lv_sub hl [5, 6, 7, 8, 9, 10, 11, 12, 13, 14, 1, 15, 0] rfl)
                          · skip
                            have hne : ¬ wNv (fgV v' told) i = W1 := fun z => c218 (by rw [z])
                            refine lv_goto (tgt := 234) hx hb dL_step_221 (by decide) ?_
                            refine lv_iinc (v := nI (i + 1)) (lv' := [(12, .int (nI (i + 1))), (15, .int (nI (wNv (fgV v' told) i))), (14, .int (dnL (fgV v' told).la i)), (13, .int (acL (fgV v' told).la i)), (0, .int b), (1, .ref (r 0)), (2, .ref (r 1)), (3, .ref (r 2)), (4, .ref (r 3)), (5, .ref (r 4)), (6, .ref (r 5)), (7, .ref (r 6)), (8, .int (b - nI told * 2)), (9, .ref q), (10, .int (nI mny)), (11, .int (nI W1))]) hx hb dL_step_234 hl (k := 15) rfl (nI_1 _) (by decide) rfl (fun ls hl => ?_)
                            refine lv_goto (tgt := 132) hx hb dL_step_237 (by decide) ?_
                            exact ih132 (i + 1) mny o (by omega) (by omega) (ord_skip hI (fun _ => hne)) h48 _ _ _ (fz_cast (rfl) hW) (lv_sub hl [4, 5, 6, 7, 8, 9, 10, 11, 12, 13, 14, 15, 0] rfl)
                        refine lv_icmp_ge (tgt := 210) hx hb dL_step_194 (by decide) (fun c194 => ?_) (fun c194 => ?_)
                        · skip
                          refine lv_iconst (v := 0) hx hb dL_step_210 (by decide) ?_
                          exact join211 0 (by unfold bonL; rw [if_neg (Int32.not_lt.mpr c194)]) _ (lv_sub hl [0, 1, 2, 3, 4, 5, 6, 7, 8, 9, 10, 11, 12, 13, 14] rfl)
                        · skip
                          refine lv_iload hx hb dL_step_197 (lv_at hl 0 rfl) ?_
                          refine lv_iload hx hb dL_step_199 (lv_at hl 0 rfl) ?_
                          refine lv_imul hx hb dL_step_201 ?_
                          refine lv_iconst (v := 2) hx hb dL_step_202 (by decide) ?_
                          refine lv_icmp_ge (tgt := 210) hx hb dL_step_203 (by decide) (fun c203 => ?_) (fun c203 => ?_)
                          · skip
                            refine lv_iconst (v := 0) hx hb dL_step_210 (by decide) ?_
                            exact join211 0 (by unfold bonL; rw [if_pos (Int32.not_le.mp c194), if_neg (Int32.not_lt.mpr c203)]) _ (lv_sub hl [0, 1, 2, 3, 4, 5, 6, 7, 8, 9, 10, 11, 12, 13, 14] rfl)
                          · skip
                            refine lv_iconst (v := 5) hx hb dL_step_206 (by decide) ?_
                            refine lv_goto (tgt := 211) hx hb dL_step_207 (by decide) ?_
                            exact join211 5 (by unfold bonL; rw [if_pos (Int32.not_le.mp c194), if_pos (Int32.not_le.mp c203)]) _ (lv_sub hl [0, 1, 2, 3, 4, 5, 6, 7, 8, 9, 10, 11, 12, 13, 14] rfl)
                      · skip
                        have hal : (fgV v' told).since i = -1 := Classical.byContradiction (fun z => c143 (by rw [hr1.2.2.1 i (by omega)]; exact (inv_ge hi1.1 (by omega)).mpr z))
                        refine lv_goto (tgt := 234) hx hb dL_step_146 (by decide) ?_
                        refine lv_iinc (v := nI (i + 1)) (lv' := [(12, .int (nI (i + 1))), (0, .int b), (1, .ref (r 0)), (2, .ref (r 1)), (3, .ref (r 2)), (4, .ref (r 3)), (5, .ref (r 4)), (6, .ref (r 5)), (7, .ref (r 6)), (8, .int (b - nI told * 2)), (9, .ref q), (10, .int (nI mny)), (11, .int (nI W1))]) hx hb dL_step_234 hl (k := 12) rfl (nI_1 _) (by decide) rfl (fun ls hl => ?_)
                        refine lv_goto (tgt := 132) hx hb dL_step_237 (by decide) ?_
                        exact ih132 (i + 1) mny o (by omega) (by omega) (ord_skip hI (fun z => absurd hal z)) h48 _ _ _ (fz_cast (rfl) hW) (lv_sub hl [1, 2, 3, 4, 5, 6, 7, 8, 9, 10, 11, 12, 0] rfl)
                exact loop132 49 0 mny o (by omega) (by omega) (ord_in (hO hwm)) h48 _ _ _ (fz_cast (rfl) hW) (lv_sub hl [1, 2, 3, 4, 5, 6, 7, 8, 9, 10, 11, 12, 0] rfl)
        exact loop117 (N + 7) (N + 6) 0 (fun _ => 0) (by omega) (by omega) (fun _ => ord_0 _ (fun i i1 i2 => by
          have := (wN_is hi1.1 eN hNT i1 i2).2
          omega)) (fun _ => rfl) (by omega) _ _ _ (fz_cast (rfl) hW) (lv_sub hl [3, 4, 5, 6, 7, 8, 9, 10, 11, 2, 1, 0] rfl)
      refine lv_if_le (tgt := 100) hx hb dL_step_7 (by decide) (fun c7 => ?_) (fun c7 => ?_)
      · skip
        have h7 : kr = 0 := by
          rw [eg2] at c7
          have := (nI_leI (a := kr) (b := 0) (by omega) (by omega)).mp c7
          omega
        exact join100 () (by rw [hE, h7]; first | done | rfl) _ _ _ (fz_cast (rfl) hW) (lv_sub hl [0, 1, 2, 3, 4, 5, 6, 7, 8] rfl)
      · skip
        obtain ⟨k2, rfl⟩ : ∃ k2, kr = k2 + 1 := ⟨kr - 1, by
          have hh : ¬ kr ≤ 0 := fun z => c7 (by rw [eg2]; exact (nI_leI (a := kr) (b := 0) (by omega) (by omega)).mpr z)
          omega⟩
        refine lv_iload hx hb dL_step_10 (lv_at hl 8 rfl) ?_
        refine lv_iconst (v := 1) hx hb dL_step_12 (by decide) ?_
        refine lv_icmp_le (tgt := 100) hx hb dL_step_13 (by decide) (fun c13 => ?_) (fun c13 => ?_)
        · skip
          have c13' : b - nI told * 2 < 2 := i_le1.mp c13
          exact join100 () (by rw [hE]; exact if_pos c13') _ _ _ (fz_cast (rfl) hW) (lv_sub hl [0, 1, 2, 3, 4, 5, 6, 7, 8] rfl)
        · skip
          have c13' : ¬ b - nI told * 2 < 2 := fun z => c13 (i_le1.mpr z)
          refine lv_aload_n hx hb dL_step_16 rfl (lv_at hl 2 rfl) ?_
          refine lv_aload hx hb dL_step_17 (lv_at hl 5 rfl) ?_
          refine lv_iconst (v := 0) hx hb dL_step_19 (by decide) ?_
          refine fz_cSv X hW (fz_C.s7 (c_L_shift l g (r 1) (r 4) x'.f x'.w 0 (v'.mv told) (by decide) (told_w hr1 hw1) (told_m hi1.1 hw1).1 (told_m hi1.1 hw1).2)) lk_L_16 rfl ⟨Nat.le_of_ble_eq_true rfl, Nat.le_of_ble_eq_true rfl⟩ hl rfl (Nat.le_of_ble_eq_true rfl) dL_step_20 ⟨Nat.le_of_ble_eq_true rfl, Nat.le_of_ble_eq_true rfl⟩ (fun H locs hW => ?_)
          have hW : fz_W g A s (RW g r (x'.fS (shN (v'.mv told) x'.f (v'.mv told 2 * v'.mv told 3)))) H locs := hW
          refine lv_iconst (v := 0) hx hb dL_step_23 (by decide) ?_
          refine lv_istore (lv' := [(9, .int 0), (0, .int b), (1, .ref (r 0)), (2, .ref (r 1)), (3, .ref (r 2)), (4, .ref (r 3)), (5, .ref (r 4)), (6, .ref (r 5)), (7, .ref (r 6)), (8, .int (b - nI told * 2))]) hx hb dL_step_24 hl (by decide) rfl (fun ls hl => ?_)
          have loop26 : ∀ (k : Nat) (i : Nat), i ≤ 48 → 48 < i + k → ∀ (H : Heap) (locs : List Loc) (ls : Array Slot), fz_W g A s (RW g r (lkN (x'.fS (shN (v'.mv told) x'.f (v'.mv told 2 * v'.mv told 3))) i)) H locs → lv_has ls 16 [(0, .int b), (1, .ref (r 0)), (2, .ref (r 1)), (3, .ref (r 2)), (4, .ref (r 3)), (5, .ref (r 4)), (6, .ref (r 5)), (7, .ref (r 6)), (8, .int (b - nI told * 2)), (9, .int (nI i))] → W p l e (fz_R 1 1 48 27) s m args below meth c H locs 0 0 (MQ below (fz_QK g (fun W1 => ∃ x1 : LV, W1 = RW g r x1 ∧ Rel (psV v b) y x1 ∧ Inv (psV v b) (T + 1)) (some (.int (psA v b).1)) A) args s 1 48 A) (F0 m 26 ls []) := by
            intro k
            induction k with
            | zero =>
              intro i hi hk
              omega
            | succ k ih26 =>
              intro i hi hki H locs ls hW hl
              refine lv_iload hx hb dL_step_26 (lv_at hl 9 rfl) ?_
              refine lv_bipush (v := 48) hx hb dL_step_28 (by decide) ?_
              refine lv_icmp_ge (tgt := 49) hx hb dL_step_30 (by decide) (fun c30 => ?_) (fun c30 => ?_)
              · skip
                have h30 : 48 ≤ i := (nI_leI (a := 48) (b := i) (by omega) (by omega)).mp c30
                have e30 : i = 48 := by omega
                have hl := lv_sub hl [0, 1, 2, 3, 4, 5, 6, 7, 8] rfl
                have hl : lv_has ls 16 [(0, .int b), (1, .ref (r 0)), (2, .ref (r 1)), (3, .ref (r 2)), (4, .ref (r 3)), (5, .ref (r 4)), (6, .ref (r 5)), (7, .ref (r 6)), (8, .int (b - nI told * 2))] := hl
                have hW : fz_W g A s (RW g r ((x'.fS (shN (v'.mv told) x'.f (v'.mv told 2 * v'.mv told 3))).uS (fz_to (fun t => luF (x'.fS (shN (v'.mv told) x'.f (v'.mv told 2 * v'.mv told 3))) t (x'.n t)) x'.u 48))) H locs := fz_cast (by rw [e30]; exact congrArg (RW g r) (lkN_eq (x'.fS (shN (v'.mv told) x'.f (v'.mv told 2 * v'.mv told 3))) 48)) hW
                refine lv_iconst (v := 0) hx hb dL_step_49 (by decide) ?_
                refine lv_istore (lv' := [(9, .int 0), (0, .int b), (1, .ref (r 0)), (2, .ref (r 1)), (3, .ref (r 2)), (4, .ref (r 3)), (5, .ref (r 4)), (6, .ref (r 5)), (7, .ref (r 6)), (8, .int (b - nI told * 2))]) hx hb dL_step_50 hl (by decide) rfl (fun ls hl => ?_)
                have loop52 : ∀ (k : Nat) (i : Nat), i ≤ 18 → 18 < i + k → ∀ (H : Heap) (locs : List Loc) (ls : Array Slot), fz_W g A s (RW g r (((x'.fS (shN (v'.mv told) x'.f (v'.mv told 2 * v'.mv told 3))).uS (fz_to (fun t => luF (x'.fS (shN (v'.mv told) x'.f (v'.mv told 2 * v'.mv told 3))) t (x'.n t)) x'.u 48)).wS (fz_to (fun k => x'.w (k + 6)) x'.w i))) H locs → lv_has ls 16 [(0, .int b), (1, .ref (r 0)), (2, .ref (r 1)), (3, .ref (r 2)), (4, .ref (r 3)), (5, .ref (r 4)), (6, .ref (r 5)), (7, .ref (r 6)), (8, .int (b - nI told * 2)), (9, .int (nI i))] → W p l e (fz_R 1 1 48 27) s m args below meth c H locs 0 0 (MQ below (fz_QK g (fun W1 => ∃ x1 : LV, W1 = RW g r x1 ∧ Rel (psV v b) y x1 ∧ Inv (psV v b) (T + 1)) (some (.int (psA v b).1)) A) args s 1 48 A) (F0 m 52 ls []) := by
                  intro k
                  induction k with
                  | zero =>
                    intro i hi hk
                    omega
                  | succ k ih52 =>
                    intro i hi hki H locs ls hW hl
                    refine lv_iload hx hb dL_step_52 (lv_at hl 9 rfl) ?_
                    refine lv_bipush (v := 18) hx hb dL_step_54 (by decide) ?_
                    refine lv_icmp_ge (tgt := 78) hx hb dL_step_56 (by decide) (fun c56 => ?_) (fun c56 => ?_)
                    · skip
                      have h56 : 18 ≤ i := (nI_leI (a := 18) (b := i) (by omega) (by omega)).mp c56
                      have e56 : i = 18 := by omega
                      have hl := lv_sub hl [0, 1, 2, 3, 4, 5, 6, 7, 8] rfl
                      have hl : lv_has ls 16 [(0, .int b), (1, .ref (r 0)), (2, .ref (r 1)), (3, .ref (r 2)), (4, .ref (r 3)), (5, .ref (r 4)), (6, .ref (r 5)), (7, .ref (r 6)), (8, .int (b - nI told * 2))] := hl
                      have hW : fz_W g A s (RW g r (((x'.fS (shN (v'.mv told) x'.f (v'.mv told 2 * v'.mv told 3))).uS (fz_to (fun t => luF (x'.fS (shN (v'.mv told) x'.f (v'.mv told 2 * v'.mv told 3))) t (x'.n t)) x'.u 48)).wS (fz_to (fun k => x'.w (k + 6)) x'.w 18))) H locs := fz_cast (by rw [e56]) hW
                      refine lv_aload hx hb dL_step_78 (lv_at hl 7 rfl) ?_
                      refine lv_iconst (v := 2) hx hb dL_step_80 (by decide) ?_
                      refine lv_dup2_11 hx hb dL_step_81 rfl rfl ?_
                      refine fz_il X hW 6 (2) rfl rfl (by omega) (by decide) dL_step_82 ?_
                      refine lv_iconst (v := 1) hx hb dL_step_83 (by decide) ?_
                      refine lv_isub hx hb dL_step_84 ?_
                      refine fz_is X hW 6 (2) rfl rfl (by omega) (by decide) dL_step_85 (fun H locs hW => ?_)
                      refine lv_aload hx hb dL_step_86 (lv_at hl 7 rfl) ?_
                      refine lv_iconst (v := 4) hx hb dL_step_88 (by decide) ?_
                      refine lv_dup2_11 hx hb dL_step_89 rfl rfl ?_
                      refine fz_il X hW 6 (4) rfl rfl (by omega) (by decide) dL_step_90 ?_
                      refine lv_iconst (v := 1) hx hb dL_step_91 (by decide) ?_
                      refine lv_iadd hx hb dL_step_92 ?_
                      refine fz_is X hW 6 (4) rfl rfl (by omega) (by decide) dL_step_93 (fun H locs hW => ?_)
                      refine lv_iinc (v := b - nI (told + 1) * 2) (lv' := [(8, .int (b - nI (told + 1) * 2)), (0, .int b), (1, .ref (r 0)), (2, .ref (r 1)), (3, .ref (r 2)), (4, .ref (r 3)), (5, .ref (r 4)), (6, .ref (r 5)), (7, .ref (r 6))]) hx hb dL_step_94 hl (k := 8) rfl (i_told b told) (by decide) rfl (fun ls hl => ?_)
                      refine lv_goto (tgt := 3) hx hb dL_step_97 (by decide) ?_
                      exact ih3 k2 (nuV (afV v' told)) (told + 1) (tnL x' (v'.mv told)) (by omega) (by show v'.wm = _; omega) (rel_told hr1 hi1 hw1).1 (rel_told hr1 hi1 hw1).2 (by rw [hE]; exact if_neg c13') _ _ _ (fz_cast (congrArg (RW g r) (tn_is x' (v'.mv told))) hW) (lv_sub hl [1, 2, 3, 4, 5, 6, 7, 8, 0] rfl)
                    · skip
                      have h56 : i < 18 := Nat.not_le.mp (fun z => c56 ((nI_leI (a := 18) (b := i) (by omega) (by omega)).mpr z))
                      refine lv_aload hx hb dL_step_59 (lv_at hl 5 rfl) ?_
                      refine lv_iload hx hb dL_step_61 (lv_at hl 9 rfl) ?_
                      refine lv_aload hx hb dL_step_63 (lv_at hl 5 rfl) ?_
                      refine lv_iload hx hb dL_step_65 (lv_at hl 9 rfl) ?_
                      refine lv_bipush (v := 6) hx hb dL_step_67 (by decide) ?_
                      refine lv_iadd hx hb dL_step_69 ?_
                      refine fz_il X hW 4 (i + 6) rfl (nI_add i 6) (by omega) (by decide) dL_step_70 ?_
                      refine fz_is X hW 4 (i) rfl rfl (by omega) (by decide) dL_step_71 (fun H locs hW => ?_)
                      refine lv_iinc (v := nI (i + 1)) (lv' := [(9, .int (nI (i + 1))), (0, .int b), (1, .ref (r 0)), (2, .ref (r 1)), (3, .ref (r 2)), (4, .ref (r 3)), (5, .ref (r 4)), (6, .ref (r 5)), (7, .ref (r 6)), (8, .int (b - nI told * 2))]) hx hb dL_step_72 hl (k := 9) rfl (nI_1 _) (by decide) rfl (fun ls hl => ?_)
                      refine lv_goto (tgt := 52) hx hb dL_step_75 (by decide) ?_
                      exact ih52 (i + 1) (by omega) (by omega) _ _ _ (fz_cast (congrArg (fun z => RW g r (((x'.fS (shN (v'.mv told) x'.f (v'.mv told 2 * v'.mv told 3))).uS (fz_to (fun t => luF (x'.fS (shN (v'.mv told) x'.f (v'.mv told 2 * v'.mv told 3))) t (x'.n t)) x'.u 48)).wS z)) (fz_to_s (x := fz_to (fun k => x'.w (k + 6)) x'.w i (i + 6)) (fun k => x'.w (k + 6)) x'.w i (fz_to_ge (f := fun k => x'.w (k + 6)) (h := x'.w) (k := i) (j := i + 6) (by omega)))) hW) (lv_sub hl [1, 2, 3, 4, 5, 6, 7, 8, 9, 0] rfl)
                exact loop52 (18 + 1) 0 (by omega) (by omega) _ _ _ (fz_cast (congrArg (fun z => RW g r (((x'.fS (shN (v'.mv told) x'.f (v'.mv told 2 * v'.mv told 3))).uS (fz_to (fun t => luF (x'.fS (shN (v'.mv told) x'.f (v'.mv told 2 * v'.mv told 3))) t (x'.n t)) x'.u 48)).wS z)) (fz_to_0 (fun k => x'.w (k + 6)) x'.w).symm) hW) (lv_sub hl [1, 2, 3, 4, 5, 6, 7, 8, 9, 0] rfl)
              · skip
                have h30 : i < 48 := Nat.not_le.mp (fun z => c30 ((nI_leI (a := 48) (b := i) (by omega) (by omega)).mpr z))
                refine lv_iload hx hb dL_step_33 (lv_at hl 9 rfl) ?_
                refine lv_aload_n hx hb dL_step_35 rfl (lv_at hl 1 rfl) ?_
                refine lv_aload_n hx hb dL_step_36 rfl (lv_at hl 2 rfl) ?_
                refine lv_aload_n hx hb dL_step_37 rfl (lv_at hl 3 rfl) ?_
                refine lv_aload hx hb dL_step_38 (lv_at hl 7 rfl) ?_
                refine fz_cSv X hW (c_L_like l g r (lkN (x'.fS (shN (v'.mv told) x'.f (v'.mv told 2 * v'.mv told 3))) i) i (by omega)) lk_L_10 rfl ⟨Nat.le_of_ble_eq_true rfl, Nat.le_of_ble_eq_true rfl⟩ hl rfl (Nat.le_of_ble_eq_true rfl) dL_step_40 ⟨Nat.le_of_ble_eq_true rfl, Nat.le_of_ble_eq_true rfl⟩ (fun H locs hW => ?_)
                refine lv_iinc (v := nI (i + 1)) (lv' := [(9, .int (nI (i + 1))), (0, .int b), (1, .ref (r 0)), (2, .ref (r 1)), (3, .ref (r 2)), (4, .ref (r 3)), (5, .ref (r 4)), (6, .ref (r 5)), (7, .ref (r 6)), (8, .int (b - nI told * 2))]) hx hb dL_step_43 hl (k := 9) rfl (nI_1 _) (by decide) rfl (fun ls hl => ?_)
                refine lv_goto (tgt := 26) hx hb dL_step_46 (by decide) ?_
                exact ih26 (i + 1) (by omega) (by omega) _ _ _ (fz_cast (rfl) hW) (lv_sub hl [1, 2, 3, 4, 5, 6, 7, 8, 9, 0] rfl)
          exact loop26 (48 + 1) 0 (by omega) (by omega) _ _ _ (fz_cast (rfl) hW) (lv_sub hl [1, 2, 3, 4, 5, 6, 7, 8, 9, 0] rfl)
  exact loop3 (v.wm + 1) v.wm v 0 x (Nat.lt_succ_self _) (by omega) (rel_fg hr) (inv_fg hi) rfl _ _ _ (fz_cast (rfl) hW) (lv_sub hl [1, 2, 3, 4, 5, 6, 7, 8, 0] rfl)
