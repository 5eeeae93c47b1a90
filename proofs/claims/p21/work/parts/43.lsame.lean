/-! what the law compares -/
theorem ok_all : ∀ t : Fin 48, okT (nI t.val - nI t.val / 8 * 8) (nI t.val / 8) ∧ tN (nI t.val - nI t.val / 8 * 8) (nI t.val / 8) = t.val := by decide +kernel
theorem ok_t {t : Nat} (ht : t < 48) : okT (nI t - nI t / 8 * 8) (nI t / 8) := (ok_all ⟨t, ht⟩).1
theorem tn_t {t : Nat} (ht : t < 48) : tN (nI t - nI t / 8 * 8) (nI t / 8) = t := (ok_all ⟨t, ht⟩).2
def ulL (u : Nat → Int32) : Nat → Int64
  | 0 => 0
  | t + 1 => ulL u t ||| (if 0 ≤ u t then 1 <<< ((nI t).toInt64 &&& 63) else 0)
def roL (f : Nat → Int32) : Nat → Int32
  | 0 => 0
  | t + 1 => roL f t + f t / 1000
def anL (n : Nat → Int32) : Nat → Int32
  | 0 => 0
  | t + 1 => anL n t + (if n t < 64 then 2 else 6)
theorem ul_is {v : SV} {y : Int32} {x : LV} {T : Nat} (hr : Rel v y x) (hi : Inw v T) : ∀ t, t ≤ 48 → ulL x.u t = usF v t := by
  intro t
  induction t with
  | zero => intro _; rfl
  | succ t ih =>
    intro ht
    show ulL x.u t ||| (if 0 ≤ x.u t then 1 <<< ((nI t).toInt64 &&& 63) else 0) = (if v.since t = -1 then usF v t else usF v t ||| (1 <<< ((nI t).toInt64 &&& 63)))
    have q := inv_ge hi (show t < 48 by omega)
    rw [ih (by omega), hr.2.2.1 t (by omega)]
    by_cases z : v.since t = -1
    · rw [if_pos z, if_neg (fun w => (q.mp w) z)]
      exact Int64.or_zero
    · rw [if_neg z, if_pos (q.mpr z)]
theorem ro_is {v : SV} {y : Int32} {x : LV} {T : Nat} (hr : Rel v y x) (hi : Inw v T) : ∀ t, t ≤ 48 → roL x.f t = crF v t := by
  intro t
  induction t with
  | zero => intro _; rfl
  | succ t ih =>
    intro ht
    show roL x.f t + x.f t / 1000 = (if v.far t < 1000 then crF v t else crF v t + 1)
    obtain ⟨j, j1, j2⟩ := hi.2.2.2.2.2.1 t (by omega)
    have e : nI j / 1000 = nI (j / 1000) := pk_div (a := j) (d := 1000) (by omega) (by omega) (by omega)
    rw [ih (by omega), hr.2.1 t (by omega), j2, e]
    by_cases z : j < 1000
    · have z2 : nI j < 1000 := (nI_ltI (a := j) (b := 1000) (by omega) (by omega)).mpr z
      rw [if_pos z2, show j / 1000 = 0 by omega]
      exact Int32.add_zero _
    · have z2 : ¬ nI j < 1000 := fun w => z ((nI_ltI (a := j) (b := 1000) (by omega) (by omega)).mp w)
      rw [if_neg z2, show j / 1000 = 1 by omega]
      rfl
theorem an_is {v : SV} {y : Int32} {x : LV} (hr : Rel v y x) : ∀ t, t ≤ 48 → anL x.n t = anF v t := by
  intro t
  induction t with
  | zero => intro _; rfl
  | succ t ih =>
    intro ht
    show anL x.n t + (if x.n t < 64 then 2 else 6) = anF v t + wcI (v.near t)
    rw [ih (by omega), hr.1 t (by omega)]
    rfl
theorem kn_pos {v : SV} {y : Int32} {x : LV} {T i : Nat} (hr : Rel v y x) (hi : Inw v T) (h8 : i < 8) : x.kn i ≤ 0 ↔ v.kc ≤ i := by
  by_cases z : v.kc ≤ i
  · have e := hr.2.2.2.2.2.2.1 i z h8
    rw [e]
    exact ⟨fun _ => z, fun _ => by decide⟩
  · obtain ⟨j, j1, j2⟩ := hi.2.2.2.2.2.2.2.1 i (by omega)
    have e := hr.2.2.2.2.2.1 i (by omega)
    rw [j2, nI_1] at e
    rw [e]
    refine ⟨fun w => ?_, fun w => absurd w z⟩
    have := (nI_leI (a := j + 1) (b := 0) (by omega) (by omega)).mp w
    omega
theorem lg_same {x y : Int64} (h : x = y) : lg_cmp x y = 0 := by
  unfold lg_cmp
  rw [if_neg (fun z : x > y => by rw [h] at z; exact absurd z (by simp [Int64.lt_iff_toInt_lt])), if_pos h]
theorem i_p1 {a b : Int32} (h : a = b + 1) : b = a - 1 := by rw [h]; grind
set_option maxHeartbeats 8000000 in
set_option maxRecDepth 100000 in
theorem c_L_same (l : Launch) (hfl : l.stackTraces = false) (g : GG) (f : Nat) (a b : Nat → Nat) (v u : SV) (r : Nat → Nat) (x : LV) (T : Nat) (hr : Rel v v.us x) (hi : Inv v T) : fz_CP l g yL_same cL_same 13 (some .boolean) 10 1 6 184 [.ref f, .ref (r 0), .ref (r 1), .ref (r 2), .ref (r 3), .ref (r 5), .ref (r 6)] (LW g f a b v u r x) (LW g f a b v u r x) (some (.int 1)) := by
  refine fz_CP.of (by decide) (Nat.le_of_ble_eq_true rfl) ?_
  intro p e s m args below meth c A ls X Y hN hW hl
  have hx := X.1
  have hb := X.2.1
  have hl : lv_has ls 13 [(0, .ref f), (1, .ref (r 0)), (2, .ref (r 1)), (3, .ref (r 2)), (4, .ref (r 3)), (5, .ref (r 5)), (6, .ref (r 6))] := hl
  have X : fz_X p s m meth c RL cL_same 13 (some .boolean) g A := X
  have hW : fz_W g A s (LW g f a b v u r x) s.heap [] := hW
  have kc8 := hi.1.2.1
  refine lv_lconst (v := 0) hx hb dL_same_0 (by decide) ?_
  refine lv_lstore (lv' := [(7, .long 0), (0, .ref f), (1, .ref (r 0)), (2, .ref (r 1)), (3, .ref (r 2)), (4, .ref (r 3)), (5, .ref (r 5)), (6, .ref (r 6))]) hx hb dL_same_1 hl (by decide) rfl (fun ls hl => ?_)
  refine lv_iconst (v := 0) hx hb dL_same_3 (by decide) ?_
  refine lv_istore (lv' := [(9, .int 0), (7, .long 0), (0, .ref f), (1, .ref (r 0)), (2, .ref (r 1)), (3, .ref (r 2)), (4, .ref (r 3)), (5, .ref (r 5)), (6, .ref (r 6))]) hx hb dL_same_4 hl (by decide) rfl (fun ls hl => ?_)
  refine lv_iconst (v := 0) hx hb dL_same_6 (by decide) ?_
  refine lv_istore (lv' := [(10, .int 0), (9, .int 0), (7, .long 0), (0, .ref f), (1, .ref (r 0)), (2, .ref (r 1)), (3, .ref (r 2)), (4, .ref (r 3)), (5, .ref (r 5)), (6, .ref (r 6))]) hx hb dL_same_7 hl (by decide) rfl (fun ls hl => ?_)
  refine lv_iconst (v := 0) hx hb dL_same_9 (by decide) ?_
  refine lv_istore (lv' := [(11, .int 0), (10, .int 0), (9, .int 0), (7, .long 0), (0, .ref f), (1, .ref (r 0)), (2, .ref (r 1)), (3, .ref (r 2)), (4, .ref (r 3)), (5, .ref (r 5)), (6, .ref (r 6))]) hx hb dL_same_10 hl (by decide) rfl (fun ls hl => ?_)
  have loop12 : ∀ (k : Nat) (i : Nat), i ≤ v.kc → v.kc < i + k → ∀ (H : Heap) (locs : List Loc) (ls : Array Slot), fz_W g A s (LW g f a b v u r x) H locs → lv_has ls 13 [(0, .ref f), (1, .ref (r 0)), (2, .ref (r 1)), (3, .ref (r 2)), (4, .ref (r 3)), (5, .ref (r 5)), (6, .ref (r 6)), (7, .long 0), (9, .int 0), (10, .int 0), (11, .int (nI i))] → W p l e (fz_R 10 1 6 184) s m args below meth c H locs 0 0 (MQ below (fz_Q g (LW g f a b v u r x) (some (.int 1)) A) args s 1 6 A) (F0 m 12 ls []) := by
    intro k
    induction k with
    | zero =>
      intro i hik hk
      omega
    | succ k ih12 =>
      intro i hik hk H locs ls hW hl
      refine lv_iload hx hb dL_same_12 (lv_at hl 10 rfl) ?_
      refine lv_bipush (v := 8) hx hb dL_same_14 (by decide) ?_
      have join33 : ∀ (u9 : Unit), i = v.kc → ∀ (ls : Array Slot), lv_has ls 13 [(0, .ref f), (1, .ref (r 0)), (2, .ref (r 1)), (3, .ref (r 2)), (4, .ref (r 3)), (5, .ref (r 5)), (6, .ref (r 6)), (7, .long 0), (9, .int 0), (10, .int 0), (11, .int (nI i))] → W p l e (fz_R 10 1 6 184) s m args below meth c H locs 0 0 (MQ below (fz_Q g (LW g f a b v u r x) (some (.int 1)) A) args s 1 6 A) (F0 m 33 ls []) := by
        intro u9 hiq ls hl
        refine lv_iconst (v := 0) hx hb dL_same_33 (by decide) ?_
        refine lv_istore (lv' := [(12, .int 0), (0, .ref f), (1, .ref (r 0)), (2, .ref (r 1)), (3, .ref (r 2)), (4, .ref (r 3)), (5, .ref (r 5)), (6, .ref (r 6)), (7, .long 0), (9, .int 0), (10, .int 0), (11, .int (nI i))]) hx hb dL_same_34 hl (by decide) rfl (fun ls hl => ?_)
        have loop36 : ∀ (k : Nat) (t : Nat) (zu : Int64) (zr za : Int32), t ≤ 48 → 48 < t + k → zu = ulL x.u t → zr = roL x.f t → za = anL x.n t → ∀ (H : Heap) (locs : List Loc) (ls : Array Slot), fz_W g A s (LW g f a b v u r x) H locs → lv_has ls 13 [(0, .ref f), (1, .ref (r 0)), (2, .ref (r 1)), (3, .ref (r 2)), (4, .ref (r 3)), (5, .ref (r 5)), (6, .ref (r 6)), (7, .long zu), (9, .int zr), (10, .int za), (11, .int (nI i)), (12, .int (nI t))] → W p l e (fz_R 10 1 6 184) s m args below meth c H locs 0 0 (MQ below (fz_Q g (LW g f a b v u r x) (some (.int 1)) A) args s 1 6 A) (F0 m 36 ls []) := by
          intro k
          induction k with
          | zero =>
            intro t zu zr za ht hk
            omega
          | succ k ih36 =>
            intro t zu zr za ht hk hzu hzr hza H locs ls hW hl
            refine lv_iload hx hb dL_same_36 (lv_at hl 11 rfl) ?_
            refine lv_bipush (v := 48) hx hb dL_same_38 (by decide) ?_
            refine lv_icmp_ge (tgt := 192) hx hb dL_same_40 (by decide) (fun c40 => ?_) (fun c40 => ?_)
            · skip
              have h40 : 48 ≤ t := (nI_leI (a := 48) (b := t) (by omega) (by omega)).mp c40
              have e40 : t = 48 := by omega
              have hl := lv_sub hl [0, 1, 2, 3, 4, 5, 6, 7, 8, 9, 10] rfl
              have hl : lv_has ls 13 [(0, .ref f), (1, .ref (r 0)), (2, .ref (r 1)), (3, .ref (r 2)), (4, .ref (r 3)), (5, .ref (r 5)), (6, .ref (r 6)), (7, .long zu), (9, .int zr), (10, .int za), (11, .int (nI i))] := hl
              refine lv_iconst (v := 0) hx hb dL_same_192 (by decide) ?_
              refine lv_istore (lv' := [(12, .int 0), (0, .ref f), (1, .ref (r 0)), (2, .ref (r 1)), (3, .ref (r 2)), (4, .ref (r 3)), (5, .ref (r 5)), (6, .ref (r 6)), (7, .long zu), (9, .int zr), (10, .int za), (11, .int (nI i))]) hx hb dL_same_193 hl (by decide) rfl (fun ls hl => ?_)
              have loop195 : ∀ (k : Nat) (j : Nat), j ≤ i → i < j + k → ∀ (H : Heap) (locs : List Loc) (ls : Array Slot), fz_W g A s (LW g f a b v u r x) H locs → lv_has ls 13 [(0, .ref f), (1, .ref (r 0)), (2, .ref (r 1)), (3, .ref (r 2)), (4, .ref (r 3)), (5, .ref (r 5)), (6, .ref (r 6)), (7, .long zu), (9, .int zr), (10, .int za), (11, .int (nI i)), (12, .int (nI j))] → W p l e (fz_R 10 1 6 184) s m args below meth c H locs 0 0 (MQ below (fz_Q g (LW g f a b v u r x) (some (.int 1)) A) args s 1 6 A) (F0 m 195 ls []) := by
                intro k
                induction k with
                | zero =>
                  intro j hj hk
                  omega
                | succ k ih195 =>
                  intro j hj hk H locs ls hW hl
                  refine lv_iload hx hb dL_same_195 (lv_at hl 11 rfl) ?_
                  refine lv_iload hx hb dL_same_197 (lv_at hl 10 rfl) ?_
                  refine lv_icmp_ge (tgt := 226) hx hb dL_same_199 (by decide) (fun c199 => ?_) (fun c199 => ?_)
                  · skip
                    have h199 : i ≤ j := (nI_leI (a := i) (b := j) (by omega) (by omega)).mp c199
                    refine lv_iconst (v := 0) hx hb dL_same_226 (by decide) ?_
                    refine lv_istore (lv' := [(12, .int 0), (0, .ref f), (1, .ref (r 0)), (2, .ref (r 1)), (3, .ref (r 2)), (4, .ref (r 3)), (5, .ref (r 5)), (6, .ref (r 6)), (7, .long zu), (9, .int zr), (10, .int za), (11, .int (nI i))]) hx hb dL_same_227 hl (by decide) rfl (fun ls hl => ?_)
                    have loop229 : ∀ (k : Nat) (j : Nat), j ≤ 4 → 4 < j + k → ∀ (H : Heap) (locs : List Loc) (ls : Array Slot), fz_W g A s (LW g f a b v u r x) H locs → lv_has ls 13 [(0, .ref f), (1, .ref (r 0)), (2, .ref (r 1)), (3, .ref (r 2)), (4, .ref (r 3)), (5, .ref (r 5)), (6, .ref (r 6)), (7, .long zu), (9, .int zr), (10, .int za), (11, .int (nI i)), (12, .int (nI j))] → W p l e (fz_R 10 1 6 184) s m args below meth c H locs 0 0 (MQ below (fz_Q g (LW g f a b v u r x) (some (.int 1)) A) args s 1 6 A) (F0 m 229 ls []) := by
                      intro k
                      induction k with
                      | zero =>
                        intro j hj hk
                        omega
                      | succ k ih229 =>
                        intro j hj hk H locs ls hW hl
                        refine lv_iload hx hb dL_same_229 (lv_at hl 11 rfl) ?_
                        refine lv_iconst (v := 4) hx hb dL_same_231 (by decide) ?_
                        refine lv_icmp_ge (tgt := 259) hx hb dL_same_232 (by decide) (fun c232 => ?_) (fun c232 => ?_)
                        · skip
                          have h232 : 4 ≤ j := (nI_leI (a := 4) (b := j) (by omega) (by omega)).mp c232
                          refine lv_aload_n hx hb dL_same_259 rfl (lv_at hl 0 rfl) ?_
                          refine fz_cVl X hW (fz_C.lf (c_X3_unlike l g f a b v u) r x) lk_L_57 (ci := 3) (q0 := 0) rfl rfl rfl rfl ⟨Nat.le_of_ble_eq_true rfl, Nat.le_of_ble_eq_true rfl⟩ hl rfl (Nat.le_of_ble_eq_true rfl) dL_same_260 ⟨Nat.le_of_ble_eq_true rfl, Nat.le_of_ble_eq_true rfl⟩ (fun H locs hW => ?_)
                          refine lv_lload hx hb dL_same_263 (lv_at hl 7 rfl) ?_
                          refine W.lcmp hx hb dL_same_265 ?_
                          refine lv_if_ne (tgt := 345) hx hb dL_same_266 (by decide) (fun c266 => ?_) (fun c266 => ?_)
                          · exact absurd (lg_same (by rw [hzu, e40]; exact (ul_is hr hi.1 48 (Nat.le_refl _)).symm)) c266
                          · skip
                            refine lv_aload_n hx hb dL_same_269 rfl (lv_at hl 0 rfl) ?_
                            refine fz_cVi X hW (fz_C.lf (c_X3_rough l g f a b v u) r x) lk_L_61 (ci := 3) (q0 := 0) rfl rfl rfl rfl ⟨Nat.le_of_ble_eq_true rfl, Nat.le_of_ble_eq_true rfl⟩ hl rfl (Nat.le_of_ble_eq_true rfl) dL_same_270 ⟨Nat.le_of_ble_eq_true rfl, Nat.le_of_ble_eq_true rfl⟩ (fun H locs hW => ?_)
                            refine lv_iload hx hb dL_same_273 (lv_at hl 8 rfl) ?_
                            refine lv_icmp_ne (tgt := 345) hx hb dL_same_275 (by decide) (fun c275 => ?_) (fun c275 => ?_)
                            · exact absurd (by rw [hzr, e40]; exact (ro_is hr hi.1 48 (Nat.le_refl _)).symm) c275
                            · skip
                              refine lv_aload_n hx hb dL_same_278 rfl (lv_at hl 0 rfl) ?_
                              refine fz_cVi X hW (fz_C.lf (c_X3_anew l g f a b v u) r x) lk_L_65 (ci := 3) (q0 := 0) rfl rfl rfl rfl ⟨Nat.le_of_ble_eq_true rfl, Nat.le_of_ble_eq_true rfl⟩ hl rfl (Nat.le_of_ble_eq_true rfl) dL_same_279 ⟨Nat.le_of_ble_eq_true rfl, Nat.le_of_ble_eq_true rfl⟩ (fun H locs hW => ?_)
                              refine lv_iload hx hb dL_same_282 (lv_at hl 9 rfl) ?_
                              refine lv_icmp_ne (tgt := 345) hx hb dL_same_284 (by decide) (fun c284 => ?_) (fun c284 => ?_)
                              · exact absurd (by rw [hza, e40]; exact (an_is hr 48 (Nat.le_refl _)).symm) c284
                              · skip
                                refine lv_aload_n hx hb dL_same_287 rfl (lv_at hl 0 rfl) ?_
                                refine fz_cVi X hW (fz_C.lf (c_X3_knownPictures l g f a b v u) r x) lk_L_68 (ci := 3) (q0 := 0) rfl rfl rfl rfl ⟨Nat.le_of_ble_eq_true rfl, Nat.le_of_ble_eq_true rfl⟩ hl rfl (Nat.le_of_ble_eq_true rfl) dL_same_288 ⟨Nat.le_of_ble_eq_true rfl, Nat.le_of_ble_eq_true rfl⟩ (fun H locs hW => ?_)
                                refine lv_iload hx hb dL_same_291 (lv_at hl 10 rfl) ?_
                                refine lv_icmp_ne (tgt := 345) hx hb dL_same_293 (by decide) (fun c293 => ?_) (fun c293 => ?_)
                                · exact absurd (by rw [hiq]) c293
                                · skip
                                  refine lv_aload_n hx hb dL_same_296 rfl (lv_at hl 0 rfl) ?_
                                  refine lv_iconst (v := 0) hx hb dL_same_297 (by decide) ?_
                                  refine lv_iload hx hb dL_same_298 (lv_at hl 10 rfl) ?_
                                  refine fz_top (x' := nI v.kc) (by rw [hiq]) ?_
                                  refine lv_iconst (v := 0) hx hb dL_same_300 (by decide) ?_
                                  refine fz_cH X Y hN hW (fz_CH.lf (h_known l hfl g f a b v u kc8) r x) lh_71 rfl ⟨Nat.le_of_ble_eq_true rfl, Nat.le_of_ble_eq_true rfl⟩ hl rfl (Nat.le_of_ble_eq_true rfl) dL_same_301 ⟨Nat.le_of_ble_eq_true rfl, Nat.le_of_ble_eq_true rfl⟩ (fun H locs hW => ?_)
                                  refine lv_iconst (v := 1) hx hb dL_same_304 (by decide) ?_
                                  refine lv_icmp_ne (tgt := 345) hx hb dL_same_305 (by decide) (fun c305 => ?_) (fun c305 => ?_)
                                  · first | exact absurd c305 (by decide) | exact absurd (by decide) c305
                                  · skip
                                    refine lv_aload_n hx hb dL_same_308 rfl (lv_at hl 0 rfl) ?_
                                    refine fz_cVi X hW (fz_C.lf (c_X3_waiting l g f a b v u) r x) lk_L_75 (ci := 3) (q0 := 0) rfl rfl rfl rfl ⟨Nat.le_of_ble_eq_true rfl, Nat.le_of_ble_eq_true rfl⟩ hl rfl (Nat.le_of_ble_eq_true rfl) dL_same_309 ⟨Nat.le_of_ble_eq_true rfl, Nat.le_of_ble_eq_true rfl⟩ (fun H locs hW => ?_)
                                    refine lv_aload hx hb dL_same_312 (lv_at hl 6 rfl) ?_
                                    refine lv_iconst (v := 2) hx hb dL_same_314 (by decide) ?_
                                    refine fz_il X hW 41 (2) rfl rfl (by omega) (by decide) dL_same_315 ?_
                                    refine lv_icmp_ne (tgt := 345) hx hb dL_same_316 (by decide) (fun c316 => ?_) (fun c316 => ?_)
                                    · exact absurd (hr.2.2.2.2.2.2.2.2.2.1.symm) c316
                                    · skip
                                      refine lv_aload_n hx hb dL_same_319 rfl (lv_at hl 0 rfl) ?_
                                      refine fz_cVi X hW (fz_C.lf (c_X3_time l g f a b v u) r x) lk_L_78 (ci := 3) (q0 := 0) rfl rfl rfl rfl ⟨Nat.le_of_ble_eq_true rfl, Nat.le_of_ble_eq_true rfl⟩ hl rfl (Nat.le_of_ble_eq_true rfl) dL_same_320 ⟨Nat.le_of_ble_eq_true rfl, Nat.le_of_ble_eq_true rfl⟩ (fun H locs hW => ?_)
                                      refine lv_aload hx hb dL_same_323 (lv_at hl 6 rfl) ?_
                                      refine lv_iconst (v := 0) hx hb dL_same_325 (by decide) ?_
                                      refine fz_il X hW 41 (0) rfl rfl (by omega) (by decide) dL_same_326 ?_
                                      refine lv_icmp_ne (tgt := 345) hx hb dL_same_327 (by decide) (fun c327 => ?_) (fun c327 => ?_)
                                      · exact absurd (hr.2.2.2.2.2.2.2.1.symm) c327
                                      · skip
                                        refine lv_aload_n hx hb dL_same_330 rfl (lv_at hl 0 rfl) ?_
                                        refine fz_cVi X hW (fz_C.lf (c_X3_used l g f a b v u) r x) lk_L_81 (ci := 3) (q0 := 0) rfl rfl rfl rfl ⟨Nat.le_of_ble_eq_true rfl, Nat.le_of_ble_eq_true rfl⟩ hl rfl (Nat.le_of_ble_eq_true rfl) dL_same_331 ⟨Nat.le_of_ble_eq_true rfl, Nat.le_of_ble_eq_true rfl⟩ (fun H locs hW => ?_)
                                        refine lv_aload hx hb dL_same_334 (lv_at hl 6 rfl) ?_
                                        refine lv_iconst (v := 3) hx hb dL_same_336 (by decide) ?_
                                        refine fz_il X hW 41 (3) rfl rfl (by omega) (by decide) dL_same_337 ?_
                                        refine lv_icmp_ne (tgt := 345) hx hb dL_same_338 (by decide) (fun c338 => ?_) (fun c338 => ?_)
                                        · exact absurd (hr.2.2.2.2.2.2.2.2.2.2.1.symm) c338
                                        · skip
                                          refine lv_iconst (v := 1) hx hb dL_same_341 (by decide) ?_
                                          refine lv_goto (tgt := 346) hx hb dL_same_342 (by decide) ?_
                                          exact fz_rzw X (fz_cast (rfl) hW) (rfl) (rfl) ⟨Nat.le_of_ble_eq_true rfl, Nat.le_of_ble_eq_true rfl⟩ dL_same_346
                        · skip
                          have h232 : j < 4 := Nat.not_le.mp (fun z => c232 ((nI_leI (a := 4) (b := j) (by omega) (by omega)).mpr z))
                          refine lv_aload_n hx hb dL_same_235 rfl (lv_at hl 0 rfl) ?_
                          refine lv_iload hx hb dL_same_236 (lv_at hl 11 rfl) ?_
                          refine fz_cVi X hW (fz_C.lf (k_X3_sent l g f a b v u (nI j) (nI_pos (by omega)) ((nI_ltI (a := j) (b := 4) (by omega) (by omega)).mpr (by omega))) r x) lk_L_54 (ci := 3) (q0 := 0) rfl rfl rfl rfl ⟨Nat.le_of_ble_eq_true rfl, Nat.le_of_ble_eq_true rfl⟩ hl rfl (Nat.le_of_ble_eq_true rfl) dL_same_238 ⟨Nat.le_of_ble_eq_true rfl, Nat.le_of_ble_eq_true rfl⟩ (fun H locs hW => ?_)
                          refine lv_aload hx hb dL_same_241 (lv_at hl 6 rfl) ?_
                          refine lv_iconst (v := 4) hx hb dL_same_243 (by decide) ?_
                          refine lv_iload hx hb dL_same_244 (lv_at hl 11 rfl) ?_
                          refine lv_iadd hx hb dL_same_246 ?_
                          refine fz_il X hW 41 (4 + j) rfl (nI_add 4 j) (by omega) (by decide) dL_same_247 ?_
                          refine lv_icmp_eq (tgt := 253) hx hb dL_same_248 (by decide) (fun c248 => ?_) (fun c248 => ?_)
                          · skip
                            refine lv_iinc (v := nI (j + 1)) (lv' := [(12, .int (nI (j + 1))), (0, .ref f), (1, .ref (r 0)), (2, .ref (r 1)), (3, .ref (r 2)), (4, .ref (r 3)), (5, .ref (r 5)), (6, .ref (r 6)), (7, .long zu), (9, .int zr), (10, .int za), (11, .int (nI i))]) hx hb dL_same_253 hl (k := 11) rfl (nI_1 _) (by decide) rfl (fun ls hl => ?_)
                            refine lv_goto (tgt := 229) hx hb dL_same_256 (by decide) ?_
                            exact ih229 (j + 1) (by omega) (by omega) _ _ _ (fz_cast (rfl) hW) (lv_sub hl [1, 2, 3, 4, 5, 6, 7, 8, 9, 10, 11, 0] rfl)
                          · exact absurd (by rw [nI_clamp (show j < 2 ^ 31 by omega)]; exact (hr.2.2.2.2.2.2.2.2.2.2.2 j (by omega)).symm) c248
                    exact loop229 5 0 (by omega) (by omega) _ _ _ (fz_cast (rfl) hW) (lv_sub hl [1, 2, 3, 4, 5, 6, 7, 8, 9, 10, 11, 0] rfl)
                  · skip
                    have h199 : j < i := Nat.not_le.mp (fun z => c199 ((nI_leI (a := i) (b := j) (by omega) (by omega)).mpr z))
                    refine lv_aload_n hx hb dL_same_202 rfl (lv_at hl 0 rfl) ?_
                    refine lv_iload hx hb dL_same_203 (lv_at hl 11 rfl) ?_
                    refine fz_cVi X hW (fz_C.lf (k_X3_known l g f a b v u (nI j) kc8 (nI_pos (by omega)) ((nI_ltI (by omega) (by omega)).mpr (by omega))) r x) lk_L_28 (ci := 3) (q0 := 0) rfl rfl rfl rfl ⟨Nat.le_of_ble_eq_true rfl, Nat.le_of_ble_eq_true rfl⟩ hl rfl (Nat.le_of_ble_eq_true rfl) dL_same_205 ⟨Nat.le_of_ble_eq_true rfl, Nat.le_of_ble_eq_true rfl⟩ (fun H locs hW => ?_)
                    refine lv_aload hx hb dL_same_208 (lv_at hl 5 rfl) ?_
                    refine lv_iload hx hb dL_same_210 (lv_at hl 11 rfl) ?_
                    refine fz_il X hW 40 (j) rfl rfl (by omega) (by decide) dL_same_212 ?_
                    refine lv_iconst (v := 1) hx hb dL_same_213 (by decide) ?_
                    refine lv_isub hx hb dL_same_214 ?_
                    refine lv_icmp_eq (tgt := 220) hx hb dL_same_215 (by decide) (fun c215 => ?_) (fun c215 => ?_)
                    · skip
                      refine lv_iinc (v := nI (j + 1)) (lv' := [(12, .int (nI (j + 1))), (0, .ref f), (1, .ref (r 0)), (2, .ref (r 1)), (3, .ref (r 2)), (4, .ref (r 3)), (5, .ref (r 5)), (6, .ref (r 6)), (7, .long zu), (9, .int zr), (10, .int za), (11, .int (nI i))]) hx hb dL_same_220 hl (k := 11) rfl (nI_1 _) (by decide) rfl (fun ls hl => ?_)
                      refine lv_goto (tgt := 195) hx hb dL_same_223 (by decide) ?_
                      exact ih195 (j + 1) (by omega) (by omega) _ _ _ (fz_cast (rfl) hW) (lv_sub hl [1, 2, 3, 4, 5, 6, 7, 8, 9, 10, 11, 0] rfl)
                    · exact absurd (by rw [nI_clamp (show j < 2 ^ 31 by omega)]; exact i_p1 (hr.2.2.2.2.2.1 j (by omega))) c215
              exact loop195 (i + 1) 0 (by omega) (by omega) _ _ _ (fz_cast (rfl) hW) (lv_sub hl [1, 2, 3, 4, 5, 6, 7, 8, 9, 10, 11, 0] rfl)
            · skip
              have h40 : t < 48 := Nat.not_le.mp (fun z => c40 ((nI_leI (a := 48) (b := t) (by omega) (by omega)).mpr z))
              refine lv_lload hx hb dL_same_43 (lv_at hl 7 rfl) ?_
              refine lv_aload_n hx hb dL_same_45 rfl (lv_at hl 3 rfl) ?_
              refine lv_iload hx hb dL_same_46 (lv_at hl 11 rfl) ?_
              refine fz_il X hW 37 (t) rfl rfl (by omega) (by decide) dL_same_48 ?_
              have join60 : ∀ (z : Int64), z = (if 0 ≤ x.u t then 1 <<< ((nI t).toInt64 &&& 63) else 0) → ∀ (ls : Array Slot), lv_has ls 13 [(0, .ref f), (1, .ref (r 0)), (2, .ref (r 1)), (3, .ref (r 2)), (4, .ref (r 3)), (5, .ref (r 5)), (6, .ref (r 6)), (7, .long zu), (9, .int zr), (10, .int za), (11, .int (nI i)), (12, .int (nI t))] → W p l e (fz_R 10 1 6 184) s m args below meth c H locs 0 0 (MQ below (fz_Q g (LW g f a b v u r x) (some (.int 1)) A) args s 1 6 A) (F0 m 60 ls [.long z, .long zu]) := by
                intro z hz ls hl
                refine lv_lor hx hb dL_same_60 ?_
                refine lv_lstore (lv' := [(7, .long (zu ||| z)), (0, .ref f), (1, .ref (r 0)), (2, .ref (r 1)), (3, .ref (r 2)), (4, .ref (r 3)), (5, .ref (r 5)), (6, .ref (r 6)), (9, .int zr), (10, .int za), (11, .int (nI i)), (12, .int (nI t))]) hx hb dL_same_61 hl (by decide) rfl (fun ls hl => ?_)
                refine lv_iload hx hb dL_same_63 (lv_at hl 8 rfl) ?_
                refine lv_aload_n hx hb dL_same_65 rfl (lv_at hl 3 rfl) ?_
                refine lv_iload hx hb dL_same_66 (lv_at hl 11 rfl) ?_
                refine fz_il X hW 36 (t) rfl rfl (by omega) (by decide) dL_same_68 ?_
                refine lv_sipush (v := 1000) hx hb dL_same_69 (by decide) ?_
                refine lv_idiv hx hb dL_same_72 (by decide) ?_
                refine lv_iadd hx hb dL_same_73 ?_
                refine lv_istore (lv' := [(9, .int (zr + ((x.f t) / 1000))), (7, .long (zu ||| z)), (0, .ref f), (1, .ref (r 0)), (2, .ref (r 1)), (3, .ref (r 2)), (4, .ref (r 3)), (5, .ref (r 5)), (6, .ref (r 6)), (10, .int za), (11, .int (nI i)), (12, .int (nI t))]) hx hb dL_same_74 hl (by decide) rfl (fun ls hl => ?_)
                refine lv_iload hx hb dL_same_76 (lv_at hl 9 rfl) ?_
                refine lv_aload_n hx hb dL_same_78 rfl (lv_at hl 3 rfl) ?_
                refine lv_iload hx hb dL_same_79 (lv_at hl 11 rfl) ?_
                refine fz_il X hW 35 (t) rfl rfl (by omega) (by decide) dL_same_81 ?_
                refine lv_bipush (v := 64) hx hb dL_same_82 (by decide) ?_
                have join93 : ∀ (z2 : Int32), z2 = (if x.n t < 64 then 2 else 6) → ∀ (ls : Array Slot), lv_has ls 13 [(9, .int (zr + ((x.f t) / 1000))), (7, .long (zu ||| z)), (0, .ref f), (1, .ref (r 0)), (2, .ref (r 1)), (3, .ref (r 2)), (4, .ref (r 3)), (5, .ref (r 5)), (6, .ref (r 6)), (10, .int za), (11, .int (nI i)), (12, .int (nI t))] → W p l e (fz_R 10 1 6 184) s m args below meth c H locs 0 0 (MQ below (fz_Q g (LW g f a b v u r x) (some (.int 1)) A) args s 1 6 A) (F0 m 93 ls [.int z2, .int za]) := by
                  intro z2 hz2 ls hl
                  refine lv_iadd hx hb dL_same_93 ?_
                  refine lv_istore (lv' := [(10, .int (za + z2)), (9, .int (zr + ((x.f t) / 1000))), (7, .long (zu ||| z)), (0, .ref f), (1, .ref (r 0)), (2, .ref (r 1)), (3, .ref (r 2)), (4, .ref (r 3)), (5, .ref (r 5)), (6, .ref (r 6)), (11, .int (nI i)), (12, .int (nI t))]) hx hb dL_same_94 hl (by decide) rfl (fun ls hl => ?_)
                  refine lv_aload_n hx hb dL_same_96 rfl (lv_at hl 3 rfl) ?_
                  refine lv_iload hx hb dL_same_97 (lv_at hl 11 rfl) ?_
                  refine lv_bipush (v := 8) hx hb dL_same_99 (by decide) ?_
                  refine lv_irem hx hb dL_same_101 (by decide) ?_
                  refine lv_iload hx hb dL_same_102 (lv_at hl 11 rfl) ?_
                  refine lv_bipush (v := 8) hx hb dL_same_104 (by decide) ?_
                  refine lv_idiv hx hb dL_same_106 (by decide) ?_
                  refine fz_cVi X hW (fz_C.lf (k_X3_near l g f a b v u (nI t - nI t / 8 * 8) (nI t / 8) (ok_t h40)) r x) lk_L_34 (ci := 3) (q0 := 0) rfl rfl rfl rfl ⟨Nat.le_of_ble_eq_true rfl, Nat.le_of_ble_eq_true rfl⟩ hl rfl (Nat.le_of_ble_eq_true rfl) dL_same_107 ⟨Nat.le_of_ble_eq_true rfl, Nat.le_of_ble_eq_true rfl⟩ (fun H locs hW => ?_)
                  refine lv_aload_n hx hb dL_same_110 rfl (lv_at hl 4 rfl) ?_
                  refine lv_iload hx hb dL_same_111 (lv_at hl 11 rfl) ?_
                  refine fz_il X hW 35 (t) rfl rfl (by omega) (by decide) dL_same_113 ?_
                  refine lv_icmp_ne (tgt := 184) hx hb dL_same_114 (by decide) (fun c114 => ?_) (fun c114 => ?_)
                  · exact absurd (by rw [tn_t h40]; exact (hr.1 t h40).symm) c114
                  · skip
                    refine lv_aload_n hx hb dL_same_117 rfl (lv_at hl 3 rfl) ?_
                    refine lv_iload hx hb dL_same_118 (lv_at hl 11 rfl) ?_
                    refine lv_bipush (v := 8) hx hb dL_same_120 (by decide) ?_
                    refine lv_irem hx hb dL_same_122 (by decide) ?_
                    refine lv_iload hx hb dL_same_123 (lv_at hl 11 rfl) ?_
                    refine lv_bipush (v := 8) hx hb dL_same_125 (by decide) ?_
                    refine lv_idiv hx hb dL_same_127 (by decide) ?_
                    refine fz_cVi X hW (fz_C.lf (k_X3_far l g f a b v u (nI t - nI t / 8 * 8) (nI t / 8) (ok_t h40)) r x) lk_L_46 (ci := 3) (q0 := 0) rfl rfl rfl rfl ⟨Nat.le_of_ble_eq_true rfl, Nat.le_of_ble_eq_true rfl⟩ hl rfl (Nat.le_of_ble_eq_true rfl) dL_same_128 ⟨Nat.le_of_ble_eq_true rfl, Nat.le_of_ble_eq_true rfl⟩ (fun H locs hW => ?_)
                    refine lv_aload_n hx hb dL_same_131 rfl (lv_at hl 5 rfl) ?_
                    refine lv_iload hx hb dL_same_132 (lv_at hl 11 rfl) ?_
                    refine fz_il X hW 36 (t) rfl rfl (by omega) (by decide) dL_same_134 ?_
                    refine lv_icmp_ne (tgt := 184) hx hb dL_same_135 (by decide) (fun c135 => ?_) (fun c135 => ?_)
                    · exact absurd (by rw [tn_t h40]; exact (hr.2.1 t h40).symm) c135
                    · skip
                      refine lv_aload_n hx hb dL_same_138 rfl (lv_at hl 3 rfl) ?_
                      refine lv_iload hx hb dL_same_139 (lv_at hl 11 rfl) ?_
                      refine lv_bipush (v := 8) hx hb dL_same_141 (by decide) ?_
                      refine lv_irem hx hb dL_same_143 (by decide) ?_
                      refine lv_iload hx hb dL_same_144 (lv_at hl 11 rfl) ?_
                      refine lv_bipush (v := 8) hx hb dL_same_146 (by decide) ?_
                      refine lv_idiv hx hb dL_same_148 (by decide) ?_
                      refine fz_cVi X hW (fz_C.lf (k_X3_since l g f a b v u (nI t - nI t / 8 * 8) (nI t / 8) (ok_t h40)) r x) lk_L_49 (ci := 3) (q0 := 0) rfl rfl rfl rfl ⟨Nat.le_of_ble_eq_true rfl, Nat.le_of_ble_eq_true rfl⟩ hl rfl (Nat.le_of_ble_eq_true rfl) dL_same_149 ⟨Nat.le_of_ble_eq_true rfl, Nat.le_of_ble_eq_true rfl⟩ (fun H locs hW => ?_)
                      refine lv_aload_n hx hb dL_same_152 rfl (lv_at hl 6 rfl) ?_
                      refine lv_iload hx hb dL_same_153 (lv_at hl 11 rfl) ?_
                      refine fz_il X hW 37 (t) rfl rfl (by omega) (by decide) dL_same_155 ?_
                      refine lv_icmp_ne (tgt := 184) hx hb dL_same_156 (by decide) (fun c156 => ?_) (fun c156 => ?_)
                      · exact absurd (by rw [tn_t h40]; exact (hr.2.2.1 t h40).symm) c156
                      · skip
                        refine lv_aload_n hx hb dL_same_159 rfl (lv_at hl 3 rfl) ?_
                        refine lv_iload hx hb dL_same_160 (lv_at hl 11 rfl) ?_
                        refine lv_bipush (v := 8) hx hb dL_same_162 (by decide) ?_
                        refine lv_irem hx hb dL_same_164 (by decide) ?_
                        refine lv_iload hx hb dL_same_165 (lv_at hl 11 rfl) ?_
                        refine lv_bipush (v := 8) hx hb dL_same_167 (by decide) ?_
                        refine lv_idiv hx hb dL_same_169 (by decide) ?_
                        refine fz_cVi X hW (fz_C.lf (k_X3_kind l g f a b v u (nI t - nI t / 8 * 8) (nI t / 8) (ok_t h40)) r x) lk_L_52 (ci := 3) (q0 := 0) rfl rfl rfl rfl ⟨Nat.le_of_ble_eq_true rfl, Nat.le_of_ble_eq_true rfl⟩ hl rfl (Nat.le_of_ble_eq_true rfl) dL_same_170 ⟨Nat.le_of_ble_eq_true rfl, Nat.le_of_ble_eq_true rfl⟩ (fun H locs hW => ?_)
                        refine lv_iload hx hb dL_same_173 (lv_at hl 11 rfl) ?_
                        refine lv_aload_n hx hb dL_same_175 rfl (lv_at hl 4 rfl) ?_
                        refine lv_aload hx hb dL_same_176 (lv_at hl 7 rfl) ?_
                        refine fz_cSi X hW (fz_C.lr (c_L_kind l g r x t h40 (by rw [hr.1 t h40]; exact hi.1.2.2.2.2.1 t h40) (by rw [hr.2.2.2.1 t h40]; exact hi.1.2.2.2.2.2.2.1 t h40)) f a b v u) lk_L_24 rfl ⟨Nat.le_of_ble_eq_true rfl, Nat.le_of_ble_eq_true rfl⟩ hl rfl (Nat.le_of_ble_eq_true rfl) dL_same_178 ⟨Nat.le_of_ble_eq_true rfl, Nat.le_of_ble_eq_true rfl⟩ (fun H locs hW => ?_)
                        refine lv_icmp_eq (tgt := 186) hx hb dL_same_181 (by decide) (fun c181 => ?_) (fun c181 => ?_)
                        · skip
                          refine lv_iinc (v := nI (t + 1)) (lv' := [(12, .int (nI (t + 1))), (10, .int (za + z2)), (9, .int (zr + ((x.f t) / 1000))), (7, .long (zu ||| z)), (0, .ref f), (1, .ref (r 0)), (2, .ref (r 1)), (3, .ref (r 2)), (4, .ref (r 3)), (5, .ref (r 5)), (6, .ref (r 6)), (11, .int (nI i))]) hx hb dL_same_186 hl (k := 11) rfl (nI_1 _) (by decide) rfl (fun ls hl => ?_)
                          refine lv_goto (tgt := 36) hx hb dL_same_189 (by decide) ?_
                          exact ih36 (t + 1) (zu ||| z) (zr + x.f t / 1000) (za + z2) (by omega) (by omega) (by rw [hzu, hz]; rfl) (by rw [hzr]; rfl) (by rw [hza, hz2]; rfl) _ _ _ (fz_cast (rfl) hW) (lv_sub hl [4, 5, 6, 7, 8, 9, 10, 3, 2, 1, 11, 0] rfl)
                        · exact absurd (by rw [tn_t h40]; exact (kd_is hr h40).symm) c181
                refine lv_icmp_ge (tgt := 91) hx hb dL_same_84 (by decide) (fun c84 => ?_) (fun c84 => ?_)
                · skip
                  refine lv_bipush (v := 6) hx hb dL_same_91 (by decide) ?_
                  exact join93 6 (if_neg (Int32.not_lt.mpr c84)).symm _ (lv_sub hl [0, 1, 2, 3, 4, 5, 6, 7, 8, 9, 10, 11] rfl)
                · skip
                  refine lv_iconst (v := 2) hx hb dL_same_87 (by decide) ?_
                  refine lv_goto (tgt := 93) hx hb dL_same_88 (by decide) ?_
                  exact join93 2 (if_pos (Int32.not_le.mp c84)).symm _ (lv_sub hl [0, 1, 2, 3, 4, 5, 6, 7, 8, 9, 10, 11] rfl)
              refine lv_if_ge (tgt := 56) hx hb dL_same_49 (by decide) (fun c49 => ?_) (fun c49 => ?_)
              · skip
                refine lv_lconst (v := 1) hx hb dL_same_56 (by decide) ?_
                refine lv_iload hx hb dL_same_57 (lv_at hl 11 rfl) ?_
                refine lv_lshl hx hb dL_same_59 rfl ?_
                exact join60 (1 <<< ((nI t).toInt64 &&& 63)) (if_pos c49).symm _ (lv_sub hl [0, 1, 2, 3, 4, 5, 6, 7, 8, 9, 10, 11] rfl)
              · skip
                refine lv_lconst (v := 0) hx hb dL_same_52 (by decide) ?_
                refine lv_goto (tgt := 60) hx hb dL_same_53 (by decide) ?_
                exact join60 0 (if_neg c49).symm _ (lv_sub hl [0, 1, 2, 3, 4, 5, 6, 7, 8, 9, 10, 11] rfl)
        exact loop36 49 0 0 0 0 (by omega) (by omega) rfl rfl rfl _ _ _ (fz_cast (rfl) hW) (lv_sub hl [1, 2, 3, 4, 5, 6, 7, 8, 9, 10, 11, 0] rfl)
      refine lv_icmp_ge (tgt := 33) hx hb dL_same_16 (by decide) (fun c16 => ?_) (fun c16 => ?_)
      · skip
        have h16 : 8 ≤ i := (nI_leI (a := 8) (b := i) (by omega) (by omega)).mp c16
        exact join33 () (by omega) _ (lv_sub hl [0, 1, 2, 3, 4, 5, 6, 7, 8, 9, 10] rfl)
      · skip
        have h16 : i < 8 := Nat.not_le.mp (fun z => c16 ((nI_leI (a := 8) (b := i) (by omega) (by omega)).mpr z))
        refine lv_aload hx hb dL_same_19 (lv_at hl 5 rfl) ?_
        refine lv_iload hx hb dL_same_21 (lv_at hl 10 rfl) ?_
        refine fz_il X hW 40 (i) rfl rfl (by omega) (by decide) dL_same_23 ?_
        refine lv_if_le (tgt := 33) hx hb dL_same_24 (by decide) (fun c24 => ?_) (fun c24 => ?_)
        · skip
          exact join33 () (by have := (kn_pos hr hi.1 h16).mp c24; omega) _ (lv_sub hl [0, 1, 2, 3, 4, 5, 6, 7, 8, 9, 10] rfl)
        · skip
          have h24 : i < v.kc := Nat.not_le.mp (fun z => c24 ((kn_pos hr hi.1 h16).mpr z))
          refine lv_iinc (v := nI (i + 1)) (lv' := [(11, .int (nI (i + 1))), (0, .ref f), (1, .ref (r 0)), (2, .ref (r 1)), (3, .ref (r 2)), (4, .ref (r 3)), (5, .ref (r 5)), (6, .ref (r 6)), (7, .long 0), (9, .int 0), (10, .int 0)]) hx hb dL_same_27 hl (k := 10) rfl (nI_1 _) (by decide) rfl (fun ls hl => ?_)
          refine lv_goto (tgt := 12) hx hb dL_same_30 (by decide) ?_
          exact ih12 (i + 1) (by omega) (by omega) _ _ _ (fz_cast (rfl) hW) (lv_sub hl [1, 2, 3, 4, 5, 6, 7, 8, 9, 10, 0] rfl)
  exact loop12 (v.kc + 1) 0 (Nat.zero_le _) (by omega) _ _ _ (fz_cast (rfl) hW) (lv_sub hl [4, 5, 6, 7, 8, 9, 10, 3, 2, 1, 0] rfl)
