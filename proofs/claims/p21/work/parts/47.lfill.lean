set_option maxHeartbeats 8000000 in
set_option maxRecDepth 100000 in
theorem la_fill {p : Program} {l : Launch} {e : Env} {s : State} {m : MethodId} {args : Array Value} {below : List Frame} {meth : Method} {c : Code} {H : Heap} {locs : List Loc} {cells slots : Nat} {Q : State → Prop} {rt : Option FieldType} {g : GG} {A : Nat → Prop} {ls : Array Slot} {b0 L K f : Nat} {xs : Nat → Int32} {a b r : Nat → Nat} {v u : SV} {x : LV} {T kd lf tp wd hg : Nat} {xv yv : Int32} (X : fz_X p s m meth c RL cL_law 20 rt g A) (hcs : cells + 20 ≤ 600074 ∧ slots + 500 ≤ 7301550) (hB : Bo v x T) (hT : T + 1 < 2 ^ 20) (hlf : lf < 8) (htp : tp < 6) (hwd : 1 ≤ wd) (hhg : 1 ≤ hg) (h8 : lf + wd ≤ 8) (h6 : tp + hg ≤ 6) (hW : fz_W g A s (LW g f a b v u r x) H locs) (hl : lv_has ls 20 (loP b0 f r K xv yv kd lf tp wd hg)) (kk : ∀ (v : SV) (x : LV) (H : Heap) (locs : List Loc) (ls : Array Slot), Bo v x (T + 1) → fz_W g A s (LW g f a b v u r x) H locs → lv_has ls 20 (loB b0 f r K) → W p l e room_1 s m args below meth c H locs (cells + 6) (slots + 60) Q (F0 m 754 ls [])) : W p l e room_1 s m args below meth c H locs cells slots Q (F0 m 204 ls []) := by
  have hx := X.1
  have hb := X.2.1
  have hl : lv_has ls 20 [(0, .ref b0), (1, .ref f), (2, .ref (r 0)), (3, .ref (r 1)), (4, .ref (r 2)), (5, .ref (r 3)), (6, .ref (r 4)), (7, .ref (r 5)), (8, .ref (r 6)), (9, .int (nI K)), (10, .int xv), (11, .int yv), (12, .int (nI kd)), (13, .int (nI lf)), (14, .int (nI tp)), (15, .int (nI wd)), (16, .int (nI hg))] := hl
  have hW : fz_W g A s (LW g f a b v u r x) H locs := hW
  refine lv_iload hx hb dL_law_204 (lv_at hl 10 rfl) ?_
  refine lv_iconst (v := 5) hx hb dL_law_206 (by decide) ?_
  refine lv_ishr hx hb dL_law_207 ?_
  refine lv_iload hx hb dL_law_208 (lv_at hl 10 rfl) ?_
  refine lv_bipush (v := 13) hx hb dL_law_210 (by decide) ?_
  refine lv_ishr hx hb dL_law_212 ?_
  refine lv_iconst (v := 2) hx hb dL_law_213 (by decide) ?_
  refine fz_cSi X hW (c_L_low l g (xv >>> ((13 : Int32) &&& 31)) 2 (by decide) _) lk_L_89 rfl ⟨Nat.le_of_ble_eq_true rfl, Nat.le_of_ble_eq_true rfl⟩ hl rfl (Nat.le_of_ble_eq_true rfl) dL_law_214 (ce0 hcs) (fun H locs hW => ?_)
  have join227 : ∀ (nn : Nat), 1 ≤ nn → nn ≤ 256 → ∀ (ls : Array Slot), lv_has ls 20 [(0, .ref b0), (1, .ref f), (2, .ref (r 0)), (3, .ref (r 1)), (4, .ref (r 2)), (5, .ref (r 3)), (6, .ref (r 4)), (7, .ref (r 5)), (8, .ref (r 6)), (9, .int (nI K)), (10, .int xv), (11, .int yv), (12, .int (nI kd)), (13, .int (nI lf)), (14, .int (nI tp)), (15, .int (nI wd)), (16, .int (nI hg))] → W p l e room_1 s m args below meth c H locs cells slots Q (F0 m 227 ls [.int (nI nn), .int (xv >>> (5 &&& 31))]) := by
    intro nn hn1 hn2 ls hl
    refine fz_cSi X hW (c_L_low l g (xv >>> ((5 : Int32) &&& 31)) (nI nn) (nI_ne0 (by omega) (by omega)) _) lk_L_89 rfl ⟨Nat.le_of_ble_eq_true rfl, Nat.le_of_ble_eq_true rfl⟩ hl rfl (Nat.le_of_ble_eq_true rfl) dL_law_227 (ce0 hcs) (fun H locs hW => ?_)
    obtain ⟨j9, hj9, ej9⟩ := low_is (xv >>> ((5 : Int32) &&& 31)) (n := nn) (by omega) (by omega)
    refine fz_top (x' := nI j9) ej9 ?_
    refine lv_iload hx hb dL_law_230 (lv_at hl 10 rfl) ?_
    refine lv_bipush (v := 14) hx hb dL_law_232 (by decide) ?_
    refine lv_ishr hx hb dL_law_234 ?_
    refine lv_iconst (v := 2) hx hb dL_law_235 (by decide) ?_
    refine fz_cSi X hW (c_L_low l g (xv >>> ((14 : Int32) &&& 31)) 2 (by decide) _) lk_L_89 rfl ⟨Nat.le_of_ble_eq_true rfl, Nat.le_of_ble_eq_true rfl⟩ hl rfl (Nat.le_of_ble_eq_true rfl) dL_law_236 (ce0 hcs) (fun H locs hW => ?_)
    have join248 : ∀ (z1 : Nat), z1 ≤ 85 → ∀ (ls : Array Slot), lv_has ls 20 [(0, .ref b0), (1, .ref f), (2, .ref (r 0)), (3, .ref (r 1)), (4, .ref (r 2)), (5, .ref (r 3)), (6, .ref (r 4)), (7, .ref (r 5)), (8, .ref (r 6)), (9, .int (nI K)), (10, .int xv), (11, .int yv), (12, .int (nI kd)), (13, .int (nI lf)), (14, .int (nI tp)), (15, .int (nI wd)), (16, .int (nI hg))] → W p l e room_1 s m args below meth c H locs cells slots Q (F0 m 248 ls [.int (nI z1), .int (nI j9)]) := by
      intro z1 hz1 ls hl
      refine lv_imul hx hb dL_law_248 ?_
      refine lv_sipush (v := 256) hx hb dL_law_249 (by decide) ?_
      refine lv_irem hx hb dL_law_252 (by decide) ?_
      have hjz : j9 * z1 ≤ 256 * 85 := Nat.mul_le_mul (by omega) hz1
      obtain ⟨pc0, hpc, epc⟩ : ∃ pc0, pc0 < 256 ∧ nI j9 * nI z1 - nI j9 * nI z1 / 256 * 256 = nI pc0 := ⟨j9 * z1 % 256, Nat.mod_lt _ (by omega), by rw [pk_mul]; exact pk_rem (a := j9 * z1) (d := 256) (by omega) (by omega) (by omega)⟩
      refine fz_top (x' := nI pc0) epc ?_
      refine lv_istore (lv' := [(17, .int (nI pc0)), (0, .ref b0), (1, .ref f), (2, .ref (r 0)), (3, .ref (r 1)), (4, .ref (r 2)), (5, .ref (r 3)), (6, .ref (r 4)), (7, .ref (r 5)), (8, .ref (r 6)), (9, .int (nI K)), (10, .int xv), (11, .int yv), (12, .int (nI kd)), (13, .int (nI lf)), (14, .int (nI tp)), (15, .int (nI wd)), (16, .int (nI hg))]) hx hb dL_law_253 hl (by decide) rfl (fun ls hl => ?_)
      have h48 := fl_48 (w := wd) (g := hg) (by omega) (by omega)
      refine lv_iconst (v := 0) hx hb dL_law_255 (by decide) ?_
      refine lv_istore (lv' := [(18, .int 0), (17, .int (nI pc0)), (0, .ref b0), (1, .ref f), (2, .ref (r 0)), (3, .ref (r 1)), (4, .ref (r 2)), (5, .ref (r 3)), (6, .ref (r 4)), (7, .ref (r 5)), (8, .ref (r 6)), (9, .int (nI K)), (10, .int xv), (11, .int yv), (12, .int (nI kd)), (13, .int (nI lf)), (14, .int (nI tp)), (15, .int (nI wd)), (16, .int (nI hg))]) hx hb dL_law_256 hl (by decide) rfl (fun ls hl => ?_)
      refine lv_iconst (v := 0) hx hb dL_law_258 (by decide) ?_
      refine lv_istore (lv' := [(19, .int 0), (18, .int 0), (17, .int (nI pc0)), (0, .ref b0), (1, .ref f), (2, .ref (r 0)), (3, .ref (r 1)), (4, .ref (r 2)), (5, .ref (r 3)), (6, .ref (r 4)), (7, .ref (r 5)), (8, .ref (r 6)), (9, .int (nI K)), (10, .int xv), (11, .int yv), (12, .int (nI kd)), (13, .int (nI lf)), (14, .int (nI tp)), (15, .int (nI wd)), (16, .int (nI hg))]) hx hb dL_law_259 hl (by decide) rfl (fun ls hl => ?_)
      have loop261 : ∀ (k : Nat) (z : Nat), z ≤ wd * hg → wd * hg < z + k → ∀ (H : Heap) (locs : List Loc) (ls : Array Slot), fz_W g A s (LW g f a b v u r (dfl x lf tp wd (nI pc0) z)) H locs → lv_has ls 20 [(0, .ref b0), (1, .ref f), (2, .ref (r 0)), (3, .ref (r 1)), (4, .ref (r 2)), (5, .ref (r 3)), (6, .ref (r 4)), (7, .ref (r 5)), (8, .ref (r 6)), (9, .int (nI K)), (10, .int xv), (11, .int yv), (12, .int (nI kd)), (13, .int (nI lf)), (14, .int (nI tp)), (15, .int (nI wd)), (16, .int (nI hg)), (17, .int (nI pc0)), (18, .int 0), (19, .int (nI z))] → W p l e room_1 s m args below meth c H locs cells slots Q (F0 m 261 ls []) := by
        intro k
        induction k with
        | zero =>
          intro z hz hk
          omega
        | succ k ih261 =>
          intro z hz hk H locs ls hW hl
          refine lv_iload hx hb dL_law_261 (lv_at hl 19 rfl) ?_
          refine lv_iload hx hb dL_law_263 (lv_at hl 15 rfl) ?_
          refine lv_iload hx hb dL_law_265 (lv_at hl 16 rfl) ?_
          refine lv_imul hx hb dL_law_267 ?_
          refine lv_icmp_ge (tgt := 310) hx hb dL_law_268 (by decide) (fun c268 => ?_) (fun c268 => ?_)
          · skip
            rw [pk_mul] at c268
            have h268 : wd * hg ≤ z := (nI_leI (a := wd * hg) (b := z) (by omega) (by omega)).mp c268
            have e268 : z = wd * hg := by omega
            have hW : fz_W g A s (LW g f a b v u r (dfl x lf tp wd (nI pc0) (wd * hg))) H locs := fz_cast (by rw [e268]) hW
            have hl := lv_sub hl [0, 1, 2, 3, 4, 5, 6, 7, 8, 9, 10, 11, 12, 13, 14, 15, 16, 17, 18] rfl
            have hl : lv_has ls 20 [(0, .ref b0), (1, .ref f), (2, .ref (r 0)), (3, .ref (r 1)), (4, .ref (r 2)), (5, .ref (r 3)), (6, .ref (r 4)), (7, .ref (r 5)), (8, .ref (r 6)), (9, .int (nI K)), (10, .int xv), (11, .int yv), (12, .int (nI kd)), (13, .int (nI lf)), (14, .int (nI tp)), (15, .int (nI wd)), (16, .int (nI hg)), (17, .int (nI pc0)), (18, .int 0)] := hl
            have hr9 : Rel (paV v lf tp wd hg (nI pc0)) v.us (dfl x lf tp wd (nI pc0) (wd * hg)) := rel_fill hB.1 hB.2 hwd h8
            have hi9 : Inv (paV v lf tp wd hg (nI pc0)) T := inv_fill hB.2 h8 hpc rfl
            generalize (dfl x lf tp wd (nI pc0) (wd * hg)) = X9 at hW hr9
            refine lv_iconst (v := 0) hx hb dL_law_310 (by decide) ?_
            refine lv_istore (lv' := [(19, .int 0), (0, .ref b0), (1, .ref f), (2, .ref (r 0)), (3, .ref (r 1)), (4, .ref (r 2)), (5, .ref (r 3)), (6, .ref (r 4)), (7, .ref (r 5)), (8, .ref (r 6)), (9, .int (nI K)), (10, .int xv), (11, .int yv), (12, .int (nI kd)), (13, .int (nI lf)), (14, .int (nI tp)), (15, .int (nI wd)), (16, .int (nI hg)), (17, .int (nI pc0)), (18, .int 0)]) hx hb dL_law_311 hl (by decide) rfl (fun ls hl => ?_)
            have loop313 : ∀ (k : Nat) (t : Nat) (zu : Int32), t ≤ 48 → 48 < t + k → zu = cnL X9.u t → ∀ (H : Heap) (locs : List Loc) (ls : Array Slot), fz_W g A s (LW g f a b v u r X9) H locs → lv_has ls 20 [(0, .ref b0), (1, .ref f), (2, .ref (r 0)), (3, .ref (r 1)), (4, .ref (r 2)), (5, .ref (r 3)), (6, .ref (r 4)), (7, .ref (r 5)), (8, .ref (r 6)), (9, .int (nI K)), (10, .int xv), (11, .int yv), (12, .int (nI kd)), (13, .int (nI lf)), (14, .int (nI tp)), (15, .int (nI wd)), (16, .int (nI hg)), (17, .int (nI pc0)), (18, .int zu), (19, .int (nI t))] → W p l e room_1 s m args below meth c H locs cells slots Q (F0 m 313 ls []) := by
              intro k
              induction k with
              | zero =>
                intro t zu ht hk
                omega
              | succ k ih313 =>
                intro t zu ht hk hzu H locs ls hW hl
                refine lv_iload hx hb dL_law_313 (lv_at hl 19 rfl) ?_
                refine lv_bipush (v := 48) hx hb dL_law_315 (by decide) ?_
                refine lv_icmp_ge (tgt := 344) hx hb dL_law_317 (by decide) (fun c317 => ?_) (fun c317 => ?_)
                · skip
                  have h317 : 48 ≤ t := (nI_leI (a := 48) (b := t) (by omega) (by omega)).mp c317
                  have e317 : t = 48 := by omega
                  have hl := lv_sub hl [0, 1, 2, 3, 4, 5, 6, 7, 8, 9, 10, 11, 12, 13, 14, 15, 16, 17, 18] rfl
                  have hl : lv_has ls 20 [(0, .ref b0), (1, .ref f), (2, .ref (r 0)), (3, .ref (r 1)), (4, .ref (r 2)), (5, .ref (r 3)), (6, .ref (r 4)), (7, .ref (r 5)), (8, .ref (r 6)), (9, .int (nI K)), (10, .int xv), (11, .int yv), (12, .int (nI kd)), (13, .int (nI lf)), (14, .int (nI tp)), (15, .int (nI wd)), (16, .int (nI hg)), (17, .int (nI pc0)), (18, .int zu)] := hl
                  refine lv_aload_n hx hb dL_law_344 rfl (lv_at hl 1 rfl) ?_
                  refine lv_iload hx hb dL_law_345 (lv_at hl 13 rfl) ?_
                  refine lv_iload hx hb dL_law_347 (lv_at hl 14 rfl) ?_
                  refine lv_iload hx hb dL_law_349 (lv_at hl 15 rfl) ?_
                  refine lv_iload hx hb dL_law_351 (lv_at hl 16 rfl) ?_
                  refine lv_iload hx hb dL_law_353 (lv_at hl 17 rfl) ?_
                  refine fz_cVi X hW (fz_C.lf (k_X3_fill l g f a b v u (nI lf) (nI tp) (nI wd) (nI hg) (nI pc0) (okB_n hwd hhg h8 h6) (okP_n hpc)) r X9) lk_L_96 (ci := 3) (q0 := 0) rfl rfl rfl rfl ⟨Nat.le_of_ble_eq_true rfl, Nat.le_of_ble_eq_true rfl⟩ hl rfl (Nat.le_of_ble_eq_true rfl) dL_law_355 (ce0 hcs) (fun H locs hW => ?_)
                  rw [nI_clamp (show lf < 2 ^ 31 by omega), nI_clamp (show tp < 2 ^ 31 by omega), nI_clamp (show wd < 2 ^ 31 by omega), nI_clamp (show hg < 2 ^ 31 by omega)] at hW
                  rw [nI_clamp (show lf < 2 ^ 31 by omega), nI_clamp (show tp < 2 ^ 31 by omega), nI_clamp (show wd < 2 ^ 31 by omega), nI_clamp (show hg < 2 ^ 31 by omega)]
                  refine lv_iload hx hb dL_law_358 (lv_at hl 18 rfl) ?_
                  refine lv_icmp_eq (tgt := 365) hx hb dL_law_360 (by decide) (fun c360 => ?_) (fun c360 => ?_)
                  · skip
                    refine lv_goto (tgt := 754) hx hb dL_law_365 (by decide) ?_
                    refine W.widen (k := cells + 6) (n := slots + 60) (by omega) (by omega) ?_
                    exact kk (paV v lf tp wd hg (nI pc0)) (X9) _ _ _ (⟨hr9, inv_up hi9 (Nat.le_succ T) hT⟩) hW (lv_sub hl [0, 1, 2, 3, 4, 5, 6, 7, 8, 9] rfl)
                  · exact absurd (by rw [hzu, e317]; exact (cn_unlike hr9 hi9.1).symm) c360
                · skip
                  have h317 : t < 48 := Nat.not_le.mp (fun z => c317 ((nI_leI (a := 48) (b := t) (by omega) (by omega)).mpr z))
                  refine lv_iload hx hb dL_law_320 (lv_at hl 18 rfl) ?_
                  refine lv_aload hx hb dL_law_322 (lv_at hl 4 rfl) ?_
                  refine lv_iload hx hb dL_law_324 (lv_at hl 19 rfl) ?_
                  refine fz_il X hW 37 (t) rfl rfl (by omega) (by decide) dL_law_326 ?_
                  have join335 : ∀ (z9 : Int32), z9 = (if 0 ≤ X9.u t then 1 else 0) → ∀ (ls : Array Slot), lv_has ls 20 [(0, .ref b0), (1, .ref f), (2, .ref (r 0)), (3, .ref (r 1)), (4, .ref (r 2)), (5, .ref (r 3)), (6, .ref (r 4)), (7, .ref (r 5)), (8, .ref (r 6)), (9, .int (nI K)), (10, .int xv), (11, .int yv), (12, .int (nI kd)), (13, .int (nI lf)), (14, .int (nI tp)), (15, .int (nI wd)), (16, .int (nI hg)), (17, .int (nI pc0)), (18, .int zu), (19, .int (nI t))] → W p l e room_1 s m args below meth c H locs cells slots Q (F0 m 335 ls [.int z9, .int zu]) := by
                    intro z9 hz9 ls hl
                    refine lv_iadd hx hb dL_law_335 ?_
                    refine lv_istore (lv' := [(18, .int (zu + z9)), (0, .ref b0), (1, .ref f), (2, .ref (r 0)), (3, .ref (r 1)), (4, .ref (r 2)), (5, .ref (r 3)), (6, .ref (r 4)), (7, .ref (r 5)), (8, .ref (r 6)), (9, .int (nI K)), (10, .int xv), (11, .int yv), (12, .int (nI kd)), (13, .int (nI lf)), (14, .int (nI tp)), (15, .int (nI wd)), (16, .int (nI hg)), (17, .int (nI pc0)), (19, .int (nI t))]) hx hb dL_law_336 hl (by decide) rfl (fun ls hl => ?_)
                    refine lv_iinc (v := nI (t + 1)) (lv' := [(19, .int (nI (t + 1))), (18, .int (zu + z9)), (0, .ref b0), (1, .ref f), (2, .ref (r 0)), (3, .ref (r 1)), (4, .ref (r 2)), (5, .ref (r 3)), (6, .ref (r 4)), (7, .ref (r 5)), (8, .ref (r 6)), (9, .int (nI K)), (10, .int xv), (11, .int yv), (12, .int (nI kd)), (13, .int (nI lf)), (14, .int (nI tp)), (15, .int (nI wd)), (16, .int (nI hg)), (17, .int (nI pc0))]) hx hb dL_law_338 hl (k := 19) rfl (nI_1 _) (by decide) rfl (fun ls hl => ?_)
                    refine lv_goto (tgt := 313) hx hb dL_law_341 (by decide) ?_
                    exact ih313 (t + 1) (zu + z9) (by omega) (by omega) (by rw [hzu, hz9]; rfl) _ _ _ (fz_cast (rfl) hW) (lv_sub hl [2, 3, 4, 5, 6, 7, 8, 9, 10, 11, 12, 13, 14, 15, 16, 17, 18, 19, 1, 0] rfl)
                  refine lv_if_ge (tgt := 334) hx hb dL_law_327 (by decide) (fun c327 => ?_) (fun c327 => ?_)
                  · skip
                    refine lv_iconst (v := 1) hx hb dL_law_334 (by decide) ?_
                    exact join335 1 (if_pos c327).symm _ (lv_sub hl [0, 1, 2, 3, 4, 5, 6, 7, 8, 9, 10, 11, 12, 13, 14, 15, 16, 17, 18, 19] rfl)
                  · skip
                    refine lv_iconst (v := 0) hx hb dL_law_330 (by decide) ?_
                    refine lv_goto (tgt := 335) hx hb dL_law_331 (by decide) ?_
                    exact join335 0 (if_neg c327).symm _ (lv_sub hl [0, 1, 2, 3, 4, 5, 6, 7, 8, 9, 10, 11, 12, 13, 14, 15, 16, 17, 18, 19] rfl)
            exact loop313 49 0 0 (by omega) (by omega) rfl _ _ _ (fz_cast (rfl) hW) (lv_sub hl [1, 2, 3, 4, 5, 6, 7, 8, 9, 10, 11, 12, 13, 14, 15, 16, 17, 18, 19, 0] rfl)
          · skip
            rw [pk_mul] at c268
            have h268 : z < wd * hg := Nat.not_le.mp (fun q7 => c268 ((nI_leI (a := wd * hg) (b := z) (by omega) (by omega)).mpr q7))
            obtain ⟨k1, k2⟩ := fl_dm hwd h268
            refine lv_bipush (v := 8) hx hb dL_law_271 (by decide) ?_
            refine lv_iload hx hb dL_law_273 (lv_at hl 14 rfl) ?_
            refine lv_iload hx hb dL_law_275 (lv_at hl 19 rfl) ?_
            refine lv_iload hx hb dL_law_277 (lv_at hl 15 rfl) ?_
            refine lv_idiv hx hb dL_law_279 (nI_ne0 (by omega) (by omega)) ?_
            refine lv_iadd hx hb dL_law_280 ?_
            refine lv_imul hx hb dL_law_281 ?_
            refine lv_iload hx hb dL_law_282 (lv_at hl 13 rfl) ?_
            refine lv_iadd hx hb dL_law_284 ?_
            refine lv_iload hx hb dL_law_285 (lv_at hl 19 rfl) ?_
            refine lv_iload hx hb dL_law_287 (lv_at hl 15 rfl) ?_
            refine lv_irem hx hb dL_law_289 (nI_ne0 (by omega) (by omega)) ?_
            refine lv_iadd hx hb dL_law_290 ?_
            refine fz_top (x' := nI (8 * (tp + z / wd) + lf + z % wd)) (fl_ix hwd (by omega) (by omega)) ?_
            refine lv_iload hx hb dL_law_291 (lv_at hl 17 rfl) ?_
            refine lv_aload_n hx hb dL_law_293 rfl (lv_at hl 2 rfl) ?_
            refine lv_aload_n hx hb dL_law_294 rfl (lv_at hl 3 rfl) ?_
            refine lv_aload hx hb dL_law_295 (lv_at hl 4 rfl) ?_
            refine lv_aload hx hb dL_law_297 (lv_at hl 5 rfl) ?_
            refine lv_aload hx hb dL_law_299 (lv_at hl 8 rfl) ?_
            refine fz_cSv X hW (fz_C.lr (c_L_draw l g r (dfl x lf tp wd (nI pc0) z) (8 * (tp + z / wd) + lf + z % wd) (by omega) (nI pc0)) f a b v u) lk_L_92 rfl ⟨Nat.le_of_ble_eq_true rfl, Nat.le_of_ble_eq_true rfl⟩ hl rfl (Nat.le_of_ble_eq_true rfl) dL_law_301 (ce0 hcs) (fun H locs hW => ?_)
            refine lv_iinc (v := nI (z + 1)) (lv' := [(19, .int (nI (z + 1))), (0, .ref b0), (1, .ref f), (2, .ref (r 0)), (3, .ref (r 1)), (4, .ref (r 2)), (5, .ref (r 3)), (6, .ref (r 4)), (7, .ref (r 5)), (8, .ref (r 6)), (9, .int (nI K)), (10, .int xv), (11, .int yv), (12, .int (nI kd)), (13, .int (nI lf)), (14, .int (nI tp)), (15, .int (nI wd)), (16, .int (nI hg)), (17, .int (nI pc0)), (18, .int 0)]) hx hb dL_law_304 hl (k := 19) rfl (nI_1 _) (by decide) rfl (fun ls hl => ?_)
            refine lv_goto (tgt := 261) hx hb dL_law_307 (by decide) ?_
            exact ih261 (z + 1) (by omega) (by omega) _ _ _ (fz_cast (rfl) hW) (lv_sub hl [1, 2, 3, 4, 5, 6, 7, 8, 9, 10, 11, 12, 13, 14, 15, 16, 17, 18, 19, 0] rfl)
      exact loop261 (wd * hg + 1) 0 (by omega) (by omega) _ _ _ (fz_cast (rfl) hW) (lv_sub hl [3, 4, 5, 6, 7, 8, 9, 10, 11, 12, 13, 14, 15, 16, 17, 18, 19, 2, 1, 0] rfl)
    refine lv_if_ne (tgt := 246) hx hb dL_law_239 (by decide) (fun c239 => ?_) (fun c239 => ?_)
    · skip
      refine lv_bipush (v := 85) hx hb dL_law_246 (by decide) ?_
      exact join248 85 (by omega) _ (lv_sub hl [0, 1, 2, 3, 4, 5, 6, 7, 8, 9, 10, 11, 12, 13, 14, 15, 16] rfl)
    · skip
      refine lv_iconst (v := 1) hx hb dL_law_242 (by decide) ?_
      refine lv_goto (tgt := 248) hx hb dL_law_243 (by decide) ?_
      exact join248 1 (by omega) _ (lv_sub hl [0, 1, 2, 3, 4, 5, 6, 7, 8, 9, 10, 11, 12, 13, 14, 15, 16] rfl)
  refine lv_if_ne (tgt := 226) hx hb dL_law_217 (by decide) (fun c217 => ?_) (fun c217 => ?_)
  · skip
    refine lv_iconst (v := 3) hx hb dL_law_226 (by decide) ?_
    exact join227 3 (by omega) (by omega) _ (lv_sub hl [0, 1, 2, 3, 4, 5, 6, 7, 8, 9, 10, 11, 12, 13, 14, 15, 16] rfl)
  · skip
    refine lv_sipush (v := 256) hx hb dL_law_220 (by decide) ?_
    refine lv_goto (tgt := 227) hx hb dL_law_223 (by decide) ?_
    exact join227 256 (by omega) (by omega) _ (lv_sub hl [0, 1, 2, 3, 4, 5, 6, 7, 8, 9, 10, 11, 12, 13, 14, 15, 16] rfl)
