theorem fz_top {p : Program} {l : Launch} {e : Env} {R : Room} {s : State} {m : MethodId} {args : Array Value} {below : List Frame} {meth : Method} {c : Code} {H : Heap} {locs : List Loc} {cells slots : Nat} {Q : State → Prop} {pc : Nat} {ls : Array Slot} {rest : List Value} {x x' : Int32} (h : x = x') (k : W p l e R s m args below meth c H locs cells slots Q (F0 m pc ls (.int x' :: rest))) : W p l e R s m args below meth c H locs cells slots Q (F0 m pc ls (.int x :: rest)) := h ▸ k
set_option maxRecDepth 100000 in
theorem SW_bm (g : GG) (a : Nat → Nat) (v : SV) (j : Nat) (hj : j < 5) : (SW g a v)[12 + j]? = some (a (12 + j), BM (v.mv j)) := by
  rcases (show j = 0 ∨ j = 1 ∨ j = 2 ∨ j = 3 ∨ j = 4 by omega) with rfl | rfl | rfl | rfl | rfl <;> rfl
set_option maxRecDepth 100000 in
theorem SW_bm2 (g : GG) (a b : Nat → Nat) (v u : SV) (j : Nat) (hj : j < 5) : (SW g a v ++ SW g b u)[12 + j]? = some (a (12 + j), BM (v.mv j)) := by
  rcases (show j = 0 ∨ j = 1 ∨ j = 2 ∨ j = 3 ∨ j = 4 by omega) with rfl | rfl | rfl | rfl | rfl <;> rfl
def cmF (u v : Nat → Nat → Nat) (i : Nat) : Nat → Nat → Nat := fun j => if j < i then u j else v j
theorem cmF_0 (u v : Nat → Nat → Nat) : cmF u v 0 = v := by
  funext j
  simp [cmF]
theorem cmF_s (u v : Nat → Nat → Nat) (i : Nat) : mvU (cmF u v i) i (u i) = cmF u v (i + 1) := by
  funext j
  by_cases h : j = i
  · subst h
    simp [mvU, cmF]
  · by_cases h2 : j < i
    · have h3 : j < i + 1 := by omega
      simp [mvU, cmF, h, h2, h3]
    · have h3 : ¬ j < i + 1 := by omega
      simp [mvU, cmF, h, h2, h3]
theorem mvU_i (f : Nat → Nat → Nat) (i : Nat) (h : Nat → Nat) : mvU f i h i = h := by simp [mvU]
def c1V (v u : SV) (m : Nat → Nat → Nat) : SV := (SV.mk9 (fz_to u.near v.near 48) (fz_to u.far v.far 48) (fz_to u.since v.since 48) (fz_to u.ch v.ch 48) v.worths v.order v.before (m) (u.wm) v.kp v.kc v.sc v.us v.now v.la)
set_option maxHeartbeats 4000000 in
set_option maxRecDepth 100000 in
theorem c_X2_forgetMoves (l : Launch) (g : GG) (a : Nat → Nat) (v : SV) (n : Nat) (hn : n ≤ v.wm) (hwm : v.wm ≤ 4) : fz_C l g yX2_forgetMoves cX2_forgetMoves 3 none 2 47 [.ref (a 0), .int (nI n)] (SW g a v) (SW g a (fmV v n)) none := by
  refine fz_C.of (by decide) (Nat.le_of_ble_eq_true rfl) ?_
  intro p e s m args below meth c A ls X hW hl
  have hx := X.1
  have hb := X.2.1
  have hl : lv_has ls 3 [(0, .ref (a 0)), (1, .int (nI n))] := hl
  have X : fz_X p s m meth c RX2 cX2_forgetMoves 3 none g A := X
  have hW : fz_W g A s (SW g a v) s.heap [] := hW
  refine lv_iload_n hx hb dX2_forgetMoves_0 rfl (lv_at hl 1 rfl) ?_
  refine lv_istore_n (lv' := [(2, .int (nI n)), (0, .ref (a 0)), (1, .int (nI n))]) hx hb dX2_forgetMoves_1 rfl hl (by decide) rfl (fun ls hl => ?_)
  have loop2 : ∀ (k : Nat) (i : Nat), n + i ≤ v.wm → v.wm < n + i + k → ∀ (H : Heap) (locs : List Loc) (ls : Array Slot), fz_W g A s (SW g a (v.mvS (fmF v.mv n i))) H locs → lv_has ls 3 [(0, .ref (a 0)), (1, .int (nI n)), (2, .int (nI (n + i)))] → W p l e (fz_R 2 0 0 47) s m args below meth c H locs 0 0 (MQ below (fz_Q g (SW g a (fmV v n)) none A) args s 0 0 A) (F0 m 2 ls []) := by
    intro k
    induction k with
    | zero =>
      intro i hi hk
      omega
    | succ k ih2 =>
      intro i hi hk H locs ls hW hl
      refine lv_iload_n hx hb dX2_forgetMoves_2 rfl (lv_at hl 2 rfl) ?_
      refine lv_aload_n hx hb dX2_forgetMoves_3 rfl (lv_at hl 0 rfl) ?_
      refine gf_X2_39 X hW 0 rfl rfl dX2_forgetMoves_4 ?_
      refine lv_icmp_ge (tgt := 33) hx hb dX2_forgetMoves_7 (by decide) (fun c7 => ?_) (fun c7 => ?_)
      · skip
        have h7 : v.wm ≤ (n + i) := (nI_leI (a := v.wm) (b := (n + i)) (by omega) (by omega)).mp c7
        refine lv_aload_n hx hb dX2_forgetMoves_33 rfl (lv_at hl 0 rfl) ?_
        refine lv_dup hx hb dX2_forgetMoves_34 rfl ?_
        refine gf_X2_39 X hW 0 rfl rfl dX2_forgetMoves_35 ?_
        refine lv_iload_n hx hb dX2_forgetMoves_38 rfl (lv_at hl 1 rfl) ?_
        refine lv_isub hx hb dX2_forgetMoves_39 ?_
        refine fz_top (x' := nI (v.wm - n)) (show nI v.wm - nI n = _ from pk_sub (by omega)) ?_
        refine pf_X2_39 X hW 0 rfl (Nat.le_of_ble_eq_true rfl) dX2_forgetMoves_40 (fun H locs hW => ?_)
        exact fz_rv X (fz_cast (by unfold fmV; rw [show v.wm - n = i by omega]; rfl) hW) dX2_forgetMoves_43
      · skip
        have h7 : (n + i) < v.wm := Nat.not_le.mp (fun z => c7 ((nI_leI (a := v.wm) (b := (n + i)) (by omega) (by omega)).mpr z))
        refine lv_aload_n hx hb dX2_forgetMoves_10 rfl (lv_at hl 0 rfl) ?_
        refine gf_X2_35 X hW 0 rfl rfl dX2_forgetMoves_11 ?_
        refine lv_iload_n hx hb dX2_forgetMoves_14 rfl (lv_at hl 2 rfl) ?_
        refine lv_iload_n hx hb dX2_forgetMoves_15 rfl (lv_at hl 1 rfl) ?_
        refine lv_isub hx hb dX2_forgetMoves_16 ?_
        refine fz_ql X hW 8 (i) rfl (by rw [pk_sub (by omega), Nat.add_sub_cancel_left]) (by omega) (by decide) (if_pos (by omega)) dX2_forgetMoves_17 ?_
        refine lv_aload_n hx hb dX2_forgetMoves_18 rfl (lv_at hl 0 rfl) ?_
        refine gf_X2_35 X hW 0 rfl rfl dX2_forgetMoves_19 ?_
        refine lv_iload_n hx hb dX2_forgetMoves_22 rfl (lv_at hl 2 rfl) ?_
        refine fz_ql X hW 8 (n + i) rfl rfl (by omega) (by decide) (if_pos (by omega)) dX2_forgetMoves_23 ?_
        refine fz_cVv X hW (cs_copy l g a (v.mvS (fmF v.mv n i)) i (n + i) (by omega) (by omega)) lk_X2_69 (ci := 0) (q0 := 12 + i) rfl rfl (SW_bm _ _ _ _ (by omega)) rfl ⟨Nat.le_of_ble_eq_true rfl, Nat.le_of_ble_eq_true rfl⟩ hl rfl (Nat.le_of_ble_eq_true rfl) dX2_forgetMoves_24 ⟨Nat.le_refl _, Nat.le_refl _⟩ (fun H locs hW => ?_)
        refine lv_iinc (v := nI ((n + i) + 1)) (lv' := [(2, .int (nI ((n + i) + 1))), (0, .ref (a 0)), (1, .int (nI n))]) hx hb dX2_forgetMoves_27 hl (k := 2) rfl (nI_1 _) (by decide) rfl (fun ls hl => ?_)
        refine lv_goto (tgt := 2) hx hb dX2_forgetMoves_30 (by decide) ?_
        exact ih2 (i + 1) (by omega) (by omega) _ _ _ (fz_cast (rfl) hW) (lv_sub hl [1, 2, 0] rfl)
  exact loop2 (v.wm + 1) 0 (by omega) (by omega) _ _ _ (fz_cast (rfl) hW) (lv_sub hl [1, 2, 0] rfl)
set_option maxHeartbeats 4000000 in
set_option maxRecDepth 100000 in
theorem c_X2_tellMoves (l : Launch) (g : GG) (a : Nat → Nat) (v : SV) (b : Int32) (hwm : v.wm ≤ 4) (hm : ∀ j, j < v.wm → MOK (v.mv j)) : fz_C l g yX2_tellMoves cX2_tellMoves 3 (some .int) 3 69 [.ref (a 0), .int b] (SW g a v) (SW g a (tlV v b)) (some (.int (nI (tlF b v 0 v.wm).1 * 2))) := by
  refine fz_C.of (by decide) (Nat.le_of_ble_eq_true rfl) ?_
  intro p e s m args below meth c A ls X hW hl
  have hx := X.1
  have hb := X.2.1
  have hl : lv_has ls 3 [(0, .ref (a 0)), (1, .int b)] := hl
  have X : fz_X p s m meth c RX2 cX2_tellMoves 3 (some .int) g A := X
  have hW : fz_W g A s (SW g a v) s.heap [] := hW
  refine lv_iconst (v := 0) hx hb dX2_tellMoves_0 (by decide) ?_
  refine lv_istore_n (lv' := [(2, .int 0), (0, .ref (a 0)), (1, .int b)]) hx hb dX2_tellMoves_1 rfl hl (by decide) rfl (fun ls hl => ?_)
  have loop2 : ∀ (k : Nat) (n : Nat) (u : SV), n ≤ v.wm → v.wm < n + k → tlF b v 0 v.wm = tlF b u n (v.wm - n) → u.mv = v.mv → u.wm = v.wm → ∀ (H : Heap) (locs : List Loc) (ls : Array Slot), fz_W g A s (SW g a u) H locs → lv_has ls 3 [(0, .ref (a 0)), (1, .int b), (2, .int (nI n))] → W p l e (fz_R 3 0 0 69) s m args below meth c H locs 0 0 (MQ below (fz_Q g (SW g a (tlV v b)) (some (.int (nI (tlF b v 0 v.wm).1 * 2))) A) args s 0 0 A) (F0 m 2 ls []) := by
    intro k
    induction k with
    | zero =>
      intro n u hn hk
      omega
    | succ k ih2 =>
      intro n u hn hk he hu1 hu2 H locs ls hW hl
      refine lv_iload_n hx hb dX2_tellMoves_2 rfl (lv_at hl 2 rfl) ?_
      refine lv_aload_n hx hb dX2_tellMoves_3 rfl (lv_at hl 0 rfl) ?_
      refine gf_X2_39 X hW 0 rfl rfl dX2_tellMoves_4 ?_
      refine lv_icmp_ge (tgt := 46) hx hb dX2_tellMoves_7 (by decide) (fun c7 => ?_) (fun c7 => ?_)
      · skip
        have h7 : u.wm ≤ n := (nI_leI (a := u.wm) (b := n) (by omega) (by omega)).mp c7
        have hf : tlF b v 0 v.wm = (n, u) := by rw [he, show v.wm - n = 0 by omega]; rfl
        refine lv_aload_n hx hb dX2_tellMoves_46 rfl (lv_at hl 0 rfl) ?_
        refine lv_iload_n hx hb dX2_tellMoves_47 rfl (lv_at hl 2 rfl) ?_
        refine fz_cVv X hW (c_X2_forgetMoves l g a u n (by omega) (by omega)) lk_X2_121 (ci := 2) (q0 := 0) rfl rfl rfl rfl ⟨Nat.le_of_ble_eq_true rfl, Nat.le_of_ble_eq_true rfl⟩ hl rfl (Nat.le_of_ble_eq_true rfl) dX2_tellMoves_48 ⟨Nat.le_refl _, Nat.le_refl _⟩ (fun H locs hW => ?_)
        refine lv_aload_n hx hb dX2_tellMoves_51 rfl (lv_at hl 0 rfl) ?_
        refine gf_X2_50 X hW 0 rfl rfl dX2_tellMoves_52 ?_
        refine lv_iconst (v := 0) hx hb dX2_tellMoves_55 (by decide) ?_
        refine lv_dup2_11 hx hb dX2_tellMoves_56 rfl rfl ?_
        refine fz_il X hW 11 (0) rfl rfl (by omega) (by decide) dX2_tellMoves_57 ?_
        refine lv_iload_n hx hb dX2_tellMoves_58 rfl (lv_at hl 2 rfl) ?_
        refine lv_iadd hx hb dX2_tellMoves_59 ?_
        refine fz_is X hW 11 (0) rfl rfl (by omega) (by decide) dX2_tellMoves_60 (fun H locs hW => ?_)
        refine lv_iload_n hx hb dX2_tellMoves_61 rfl (lv_at hl 2 rfl) ?_
        refine lv_iconst (v := 2) hx hb dX2_tellMoves_62 (by decide) ?_
        refine lv_imul hx hb dX2_tellMoves_63 ?_
        exact fz_ri X (fz_cast (by unfold tlV; rw [hf]; rfl) hW) (by rw [hf]) dX2_tellMoves_64
      · skip
        have h7 : n < u.wm := Nat.not_le.mp (fun z => c7 ((nI_leI (a := u.wm) (b := n) (by omega) (by omega)).mpr z))
        refine lv_iload_n hx hb dX2_tellMoves_10 rfl (lv_at hl 1 rfl) ?_
        refine lv_iload_n hx hb dX2_tellMoves_11 rfl (lv_at hl 2 rfl) ?_
        refine lv_iconst (v := 2) hx hb dX2_tellMoves_12 (by decide) ?_
        refine lv_imul hx hb dX2_tellMoves_13 ?_
        refine lv_isub hx hb dX2_tellMoves_14 ?_
        refine lv_iconst (v := 2) hx hb dX2_tellMoves_15 (by decide) ?_
        refine lv_icmp_lt (tgt := 46) hx hb dX2_tellMoves_16 (by decide) (fun c16 => ?_) (fun c16 => ?_)
        · skip
          have hf : tlF b v 0 v.wm = (n, u) := by rw [he, show v.wm - n = (v.wm - (n + 1)) + 1 by omega]; exact if_pos c16
          refine lv_aload_n hx hb dX2_tellMoves_46 rfl (lv_at hl 0 rfl) ?_
          refine lv_iload_n hx hb dX2_tellMoves_47 rfl (lv_at hl 2 rfl) ?_
          refine fz_cVv X hW (c_X2_forgetMoves l g a u n (by omega) (by omega)) lk_X2_121 (ci := 2) (q0 := 0) rfl rfl rfl rfl ⟨Nat.le_of_ble_eq_true rfl, Nat.le_of_ble_eq_true rfl⟩ hl rfl (Nat.le_of_ble_eq_true rfl) dX2_tellMoves_48 ⟨Nat.le_refl _, Nat.le_refl _⟩ (fun H locs hW => ?_)
          refine lv_aload_n hx hb dX2_tellMoves_51 rfl (lv_at hl 0 rfl) ?_
          refine gf_X2_50 X hW 0 rfl rfl dX2_tellMoves_52 ?_
          refine lv_iconst (v := 0) hx hb dX2_tellMoves_55 (by decide) ?_
          refine lv_dup2_11 hx hb dX2_tellMoves_56 rfl rfl ?_
          refine fz_il X hW 11 (0) rfl rfl (by omega) (by decide) dX2_tellMoves_57 ?_
          refine lv_iload_n hx hb dX2_tellMoves_58 rfl (lv_at hl 2 rfl) ?_
          refine lv_iadd hx hb dX2_tellMoves_59 ?_
          refine fz_is X hW 11 (0) rfl rfl (by omega) (by decide) dX2_tellMoves_60 (fun H locs hW => ?_)
          refine lv_iload_n hx hb dX2_tellMoves_61 rfl (lv_at hl 2 rfl) ?_
          refine lv_iconst (v := 2) hx hb dX2_tellMoves_62 (by decide) ?_
          refine lv_imul hx hb dX2_tellMoves_63 ?_
          exact fz_ri X (fz_cast (by unfold tlV; rw [hf]; rfl) hW) (by rw [hf]) dX2_tellMoves_64
        · skip
          refine lv_aload_n hx hb dX2_tellMoves_19 rfl (lv_at hl 0 rfl) ?_
          refine gf_X2_35 X hW 0 rfl rfl dX2_tellMoves_20 ?_
          refine lv_iload_n hx hb dX2_tellMoves_23 rfl (lv_at hl 2 rfl) ?_
          refine fz_ql X hW 8 (n) rfl rfl (by omega) (by decide) (if_pos (by omega)) dX2_tellMoves_24 ?_
          refine lv_aload_n hx hb dX2_tellMoves_25 rfl (lv_at hl 0 rfl) ?_
          refine gf_X2_15 X hW 0 rfl rfl dX2_tellMoves_26 ?_
          refine lv_aload_n hx hb dX2_tellMoves_29 rfl (lv_at hl 0 rfl) ?_
          refine gf_X2_30 X hW 0 rfl rfl dX2_tellMoves_30 ?_
          refine fz_cVv X hW (cs_apFar l g a u n (by omega) (by rw [hu1]; exact hm n (by omega))) lk_X2_90 (ci := 0) (q0 := 12 + n) rfl rfl (SW_bm _ _ _ _ (by omega)) rfl ⟨Nat.le_of_ble_eq_true rfl, Nat.le_of_ble_eq_true rfl⟩ hl rfl (Nat.le_of_ble_eq_true rfl) dX2_tellMoves_33 ⟨Nat.le_refl _, Nat.le_refl _⟩ (fun H locs hW => ?_)
          refine lv_aload_n hx hb dX2_tellMoves_36 rfl (lv_at hl 0 rfl) ?_
          refine fz_cVv X hW (c_X2_noteUnlike l g a (afV u n)) lk_X2_83 (ci := 2) (q0 := 0) rfl rfl rfl rfl ⟨Nat.le_of_ble_eq_true rfl, Nat.le_of_ble_eq_true rfl⟩ hl rfl (Nat.le_of_ble_eq_true rfl) dX2_tellMoves_37 ⟨Nat.le_refl _, Nat.le_refl _⟩ (fun H locs hW => ?_)
          refine lv_iinc (v := nI (n + 1)) (lv' := [(2, .int (nI (n + 1))), (0, .ref (a 0)), (1, .int b)]) hx hb dX2_tellMoves_40 hl (k := 2) rfl (nI_1 _) (by decide) rfl (fun ls hl => ?_)
          refine lv_goto (tgt := 2) hx hb dX2_tellMoves_43 (by decide) ?_
          exact ih2 (n + 1) (nuV (afV u n)) (by omega) (by omega) (by rw [he, show v.wm - n = (v.wm - (n + 1)) + 1 by omega]; exact if_neg c16) hu1 hu2 _ _ _ (fz_cast (rfl) hW) (lv_sub hl [1, 2, 0] rfl)
  exact loop2 (v.wm + 1) 0 v (by omega) (by omega) rfl rfl rfl _ _ _ (fz_cast (rfl) hW) (lv_sub hl [1, 2, 0] rfl)
theorem tlV_keep (v : SV) (b : Int32) (hwm : v.wm ≤ 4) (hkc : v.kc ≤ 8) : (tlV v b).wm ≤ 4 ∧ (tlV v b).kc ≤ 8 := by
  obtain ⟨h1, h2, h3, h4, h5⟩ := tlF_keep b v.wm v 0
  refine ⟨?_, ?_⟩
  · show (tlF b v 0 v.wm).2.wm - (tlF b v 0 v.wm).1 ≤ 4
    omega
  · show (tlF b v 0 v.wm).2.kc ≤ 8
    omega
set_option maxHeartbeats 4000000 in
set_option maxRecDepth 100000 in
theorem c_X2_passStep (l : Launch) (g : GG) (a : Nat → Nat) (v : SV) (b : Int32) (hwm : v.wm ≤ 4) (hkc : v.kc ≤ 8) (hm : ∀ j, j < v.wm → MOK (v.mv j)) : fz_C l g yX2_passStep cX2_passStep 3 (some .int) 5 123 [.ref (a 0), .int b] (SW g a v) (SW g a (psV v b)) (some (.int (psA v b).1)) := by
  refine fz_C.of (by decide) (Nat.le_of_ble_eq_true rfl) ?_
  intro p e s m args below meth c A ls X hW hl
  have hx := X.1
  have hb := X.2.1
  have hl : lv_has ls 3 [(0, .ref (a 0)), (1, .int b)] := hl
  have X : fz_X p s m meth c RX2 cX2_passStep 3 (some .int) g A := X
  have hW : fz_W g A s (SW g a v) s.heap [] := hW
  obtain ⟨kw, kk⟩ := tlV_keep v b hwm hkc
  refine lv_aload_n hx hb dX2_passStep_0 rfl (lv_at hl 0 rfl) ?_
  refine lv_iload_n hx hb dX2_passStep_1 rfl (lv_at hl 1 rfl) ?_
  refine fz_cVi X hW (c_X2_tellMoves l g a v b hwm hm) lk_X2_112 (ci := 2) (q0 := 0) rfl rfl rfl rfl ⟨Nat.le_of_ble_eq_true rfl, Nat.le_of_ble_eq_true rfl⟩ hl rfl (Nat.le_of_ble_eq_true rfl) dX2_passStep_2 ⟨Nat.le_refl _, Nat.le_refl _⟩ (fun H locs hW => ?_)
  refine lv_istore_n (lv' := [(2, .int (nI (tlF b v 0 v.wm).1 * 2)), (0, .ref (a 0)), (1, .int b)]) hx hb dX2_passStep_5 rfl hl (by decide) rfl (fun ls hl => ?_)
  have join23 : ∀ (r : Int32 × SV), r = psA v b → ∀ (H : Heap) (locs : List Loc) (ls : Array Slot), fz_W g A s (SW g a r.2) H locs → lv_has ls 3 [(0, .ref (a 0)), (1, .int b), (2, .int r.1)] → W p l e (fz_R 5 0 0 123) s m args below meth c H locs 0 0 (MQ below (fz_Q g (SW g a (psV v b)) (some (.int (psA v b).1)) A) args s 0 0 A) (F0 m 23 ls []) := by
    intro r hr H locs ls hW hl
    refine lv_aload_n hx hb dX2_passStep_23 rfl (lv_at hl 0 rfl) ?_
    refine lv_dup hx hb dX2_passStep_24 rfl ?_
    refine gf_X2_53 X hW 0 rfl rfl dX2_passStep_25 ?_
    refine lv_iload_n hx hb dX2_passStep_28 rfl (lv_at hl 2 rfl) ?_
    refine lv_iadd hx hb dX2_passStep_29 ?_
    refine pf_X2_53 X hW 0 rfl (Nat.le_of_ble_eq_true rfl) dX2_passStep_30 (fun H locs hW => ?_)
    refine lv_aload_n hx hb dX2_passStep_33 rfl (lv_at hl 0 rfl) ?_
    refine lv_dup hx hb dX2_passStep_34 rfl ?_
    refine gf_X2_56 X hW 0 rfl rfl dX2_passStep_35 ?_
    refine lv_iconst (v := 1) hx hb dX2_passStep_38 (by decide) ?_
    refine lv_iadd hx hb dX2_passStep_39 ?_
    refine pf_X2_56 X hW 0 rfl (Nat.le_of_ble_eq_true rfl) dX2_passStep_40 (fun H locs hW => ?_)
    refine lv_aload_n hx hb dX2_passStep_43 rfl (lv_at hl 0 rfl) ?_
    refine fz_cVv X hW (c_X2_settleChanges l g a (unV r.2 r.1)) lk_X2_118 (ci := 2) (q0 := 0) rfl rfl rfl rfl ⟨Nat.le_of_ble_eq_true rfl, Nat.le_of_ble_eq_true rfl⟩ hl rfl (Nat.le_of_ble_eq_true rfl) dX2_passStep_44 ⟨Nat.le_refl _, Nat.le_refl _⟩ (fun H locs hW => ?_)
    refine lv_iload_n hx hb dX2_passStep_47 rfl (lv_at hl 2 rfl) ?_
    exact fz_ri X (fz_cast (by rw [hr]; rfl) hW) (by rw [hr]) dX2_passStep_48
  refine lv_aload_n hx hb dX2_passStep_6 rfl (lv_at hl 1 rfl) ?_
  refine gf_X2_39 X hW 0 rfl rfl dX2_passStep_7 ?_
  refine lv_if_ne (tgt := 23) hx hb dX2_passStep_10 (by decide) (fun c10 => ?_) (fun c10 => ?_)
  · skip
    have h10 : ¬ (tlV v b).wm = 0 := fun z => c10 (by rw [z]; rfl)
    exact join23 (tlR v b) (if_neg h10).symm _ _ _ (fz_cast (rfl) hW) (lv_sub hl [1, 2, 0] rfl)
  · skip
    have h10 : (tlV v b).wm = 0 := (nI_eq (a := (tlV v b).wm) (b := 0) (by omega) (by omega)).mp c10
    refine lv_iload_n hx hb dX2_passStep_13 rfl (lv_at hl 0 rfl) ?_
    refine lv_aload_n hx hb dX2_passStep_14 rfl (lv_at hl 1 rfl) ?_
    refine lv_iload_n hx hb dX2_passStep_15 rfl (lv_at hl 2 rfl) ?_
    refine lv_iload_n hx hb dX2_passStep_16 rfl (lv_at hl 0 rfl) ?_
    refine lv_isub hx hb dX2_passStep_17 ?_
    refine fz_cVi X hW (c_X2_sendTiles l g a (tlV v b) _ kk) lk_X2_115 (ci := 2) (q0 := 0) rfl rfl rfl rfl ⟨Nat.le_of_ble_eq_true rfl, Nat.le_of_ble_eq_true rfl⟩ hl rfl (Nat.le_of_ble_eq_true rfl) dX2_passStep_18 ⟨Nat.le_refl _, Nat.le_refl _⟩ (fun H locs hW => ?_)
    refine lv_iadd hx hb dX2_passStep_21 ?_
    refine lv_istore_n (lv' := [(2, .int ((nI (tlF b v 0 v.wm).1 * 2) + ((saR (tlV v b) (b - nI (tlF b v 0 v.wm).1 * 2)).1))), (0, .ref (a 0)), (1, .int b)]) hx hb dX2_passStep_22 rfl hl (by decide) rfl (fun ls hl => ?_)
    exact join23 ((tlR v b).1 + (saR (tlR v b).2 (b - (tlR v b).1)).1, (saR (tlR v b).2 (b - (tlR v b).1)).2) (if_pos h10).symm _ _ _ (fz_cast (rfl) hW) (lv_sub hl [1, 2, 0] rfl)
