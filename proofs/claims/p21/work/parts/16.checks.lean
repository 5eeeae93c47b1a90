abbrev okT (x y : Int32) : Prop := ¬ x < 0 ∧ ¬ 8 ≤ x ∧ ¬ y < 0 ∧ y < 6
abbrev okB (x y w h : Int32) : Prop := okT x y ∧ ¬ w < 1 ∧ ¬ 8 - x < w ∧ ¬ h < 1 ∧ h ≤ 6 - y
abbrev okG (b : Int32) : Prop := ¬ b < 0 ∧ b ≤ 300
abbrev okP (x : Int32) : Prop := ¬ x < 0 ∧ x ≤ 255
def exT (x y : Int32) : Option String := if okT x y then none else some XIO
def exB (x y w h : Int32) : Option String := if okB x y w h then none else some XIO
def exG (b : Int32) : Option String := if okG b then none else some XIA
def exF (x y w h q : Int32) : Option String := if okB x y w h then (if okP q then none else some XIA) else some XIO
def exM (x y w h tx ty : Int32) : Option String := if okB x y w h then (if okB tx ty w h then (if x = tx ∧ y = ty then some XIA else none) else some XIO) else some XIO
def exK (kc : Nat) (x : Int32) : Option String := if ¬ x < 0 ∧ x < nI kc then none else some XIO
def exS (x : Int32) : Option String := if ¬ x < 0 ∧ x < 4 then none else some XIA
theorem ex_n {c : Prop} [Decidable c] {E : String} (h : (if c then none else some E) = (none : Option String)) : c := by
  rcases Classical.em c with k | k
  · exact k
  · rw [if_neg k] at h
    cases h
theorem ex_p {c : Prop} [Decidable c] {E F : String} {z : Option String} (h : (if c then none else some E) = some F) : (if c then z else some E) = some F := by
  rcases Classical.em c with k | k
  · rw [if_pos k] at h
    cases h
  · rw [if_neg k] at h ⊢
    exact h
def tN (x y : Int32) : Nat := 8 * y.toNatClampNeg + x.toNatClampNeg
theorem okT_nat {x y : Int32} (h : okT x y) : ∃ i j : Nat, x = nI i ∧ y = nI j ∧ i < 8 ∧ j < 6 ∧ tN x y = 8 * j + i := by
  obtain ⟨h1, h2, h3, h4⟩ := h
  obtain ⟨i, hi, ei⟩ := nI_of h1
  obtain ⟨j, hj, ej⟩ := nI_of h3
  have i8 : i < 8 := Nat.not_le.mp (fun z => h2 (by rw [ei]; exact (nI_leI (a := 8) (b := i) (by omega) hi).mpr z))
  have j6 : j < 6 := (nI_ltI (a := j) (b := 6) hj (by omega)).mp (by rw [← ej]; exact h4)
  refine ⟨i, j, ei, ej, i8, j6, ?_⟩
  unfold tN
  rw [ei, ej, nI_clamp hi, nI_clamp hj]
theorem okB_nat {x y w h : Int32} (k : okB x y w h) : ∃ i j wd hg : Nat, x = nI i ∧ y = nI j ∧ w = nI wd ∧ h = nI hg ∧ 1 ≤ wd ∧ 1 ≤ hg ∧ i + wd ≤ 8 ∧ j + hg ≤ 6 ∧ x.toNatClampNeg = i ∧ y.toNatClampNeg = j ∧ w.toNatClampNeg = wd ∧ h.toNatClampNeg = hg := by
  obtain ⟨k0, k1, k2, k3, k4⟩ := k
  obtain ⟨i, j, ei, ej, i8, j6, -⟩ := okT_nat k0
  have w0 : ¬ w < 0 := fun z => k1 (Int32.lt_trans z (by decide))
  have h0 : ¬ h < 0 := fun z => k3 (Int32.lt_trans z (by decide))
  obtain ⟨wd, hw, ew⟩ := nI_of w0
  obtain ⟨hg, hh, eh⟩ := nI_of h0
  subst ei; subst ej; subst ew; subst eh
  have e8 : (8 : Int32) - nI i = nI (8 - i) := pk_sub (a := 8) (by omega)
  have e6 : (6 : Int32) - nI j = nI (6 - j) := pk_sub (a := 6) (by omega)
  rw [e8] at k2
  rw [e6] at k4
  have a1 : 1 ≤ wd := Nat.not_lt.mp (fun z => k1 ((nI_ltI (a := wd) (b := 1) hw (by omega)).mpr z))
  have a3 : 1 ≤ hg := Nat.not_lt.mp (fun z => k3 ((nI_ltI (a := hg) (b := 1) hh (by omega)).mpr z))
  have a2 : wd ≤ 8 - i := Nat.not_lt.mp (fun z => k2 ((nI_ltI (by omega) hw).mpr z))
  have a4 : hg ≤ 6 - j := (nI_leI hh (by omega)).mp k4
  exact ⟨i, j, wd, hg, rfl, rfl, rfl, rfl, a1, a3, by omega, by omega, nI_clamp (by omega), nI_clamp (by omega), nI_clamp hw, nI_clamp hh⟩
set_option maxHeartbeats 4000000 in
set_option maxRecDepth 100000 in
theorem c_X3_checkTile (l : Launch) (hfl : l.stackTraces = false) (g : GG) (x y : Int32) (ws : va_W) : fz_CX l g yX3_checkTile cX3_checkTile 2 none 6 1 6 90 [.int x, .int y] (ws) (ws) none (exT x y) := by
  refine fz_CX.of (by decide) (Nat.le_of_ble_eq_true rfl) ?_
  intro p e s m args below meth c A ls X Y htab hW hl
  have hx := X.1
  have hb := X.2.1
  have hl : lv_has ls 2 [(0, .int x), (1, .int y)] := hl
  have X : fz_X p s m meth c RX3 cX3_checkTile 2 none g A := X
  have hW : fz_W g A s (ws) s.heap [] := hW
  refine lv_iload_n hx hb dX3_checkTile_0 rfl (lv_at hl 0 rfl) ?_
  refine lv_if_lt (tgt := 20) hx hb dX3_checkTile_1 (by decide) (fun c1 => ?_) (fun c1 => ?_)
  · skip
    exact fz_xt X Y htab hfl hW hl (by decide +kernel) (by decide +kernel) xk_io xi_io xm_io xg_io (List.mem_of_getElem? (i := 0) rfl) (by unfold exT; rw [if_neg (fun h => h.1 c1)]) dX3_checkTile_20 dX3_checkTile_23 dX3_checkTile_24 dX3_checkTile_26 dX3_checkTile_29 (Nat.le_of_ble_eq_true rfl) (Nat.le_of_ble_eq_true rfl) ⟨Nat.le_of_ble_eq_true rfl, Nat.le_of_ble_eq_true rfl⟩ ⟨Nat.le_of_ble_eq_true rfl, Nat.le_of_ble_eq_true rfl⟩
  · skip
    refine lv_iload_n hx hb dX3_checkTile_4 rfl (lv_at hl 0 rfl) ?_
    refine lv_bipush (v := 8) hx hb dX3_checkTile_5 (by decide) ?_
    refine lv_icmp_ge (tgt := 20) hx hb dX3_checkTile_7 (by decide) (fun c7 => ?_) (fun c7 => ?_)
    · skip
      exact fz_xt X Y htab hfl hW hl (by decide +kernel) (by decide +kernel) xk_io xi_io xm_io xg_io (List.mem_of_getElem? (i := 0) rfl) (by unfold exT; rw [if_neg (fun h => h.2.1 c7)]) dX3_checkTile_20 dX3_checkTile_23 dX3_checkTile_24 dX3_checkTile_26 dX3_checkTile_29 (Nat.le_of_ble_eq_true rfl) (Nat.le_of_ble_eq_true rfl) ⟨Nat.le_of_ble_eq_true rfl, Nat.le_of_ble_eq_true rfl⟩ ⟨Nat.le_of_ble_eq_true rfl, Nat.le_of_ble_eq_true rfl⟩
    · skip
      refine lv_iload_n hx hb dX3_checkTile_10 rfl (lv_at hl 1 rfl) ?_
      refine lv_if_lt (tgt := 20) hx hb dX3_checkTile_11 (by decide) (fun c11 => ?_) (fun c11 => ?_)
      · skip
        exact fz_xt X Y htab hfl hW hl (by decide +kernel) (by decide +kernel) xk_io xi_io xm_io xg_io (List.mem_of_getElem? (i := 0) rfl) (by unfold exT; rw [if_neg (fun h => h.2.2.1 c11)]) dX3_checkTile_20 dX3_checkTile_23 dX3_checkTile_24 dX3_checkTile_26 dX3_checkTile_29 (Nat.le_of_ble_eq_true rfl) (Nat.le_of_ble_eq_true rfl) ⟨Nat.le_of_ble_eq_true rfl, Nat.le_of_ble_eq_true rfl⟩ ⟨Nat.le_of_ble_eq_true rfl, Nat.le_of_ble_eq_true rfl⟩
      · skip
        refine lv_iload_n hx hb dX3_checkTile_14 rfl (lv_at hl 1 rfl) ?_
        refine lv_bipush (v := 6) hx hb dX3_checkTile_15 (by decide) ?_
        refine lv_icmp_lt (tgt := 30) hx hb dX3_checkTile_17 (by decide) (fun c17 => ?_) (fun c17 => ?_)
        · skip
          exact fz_xrv X (fz_cast (rfl) hW) (by unfold exT; exact if_pos ⟨c1, c7, c11, c17⟩) ⟨Nat.le_of_ble_eq_true rfl, Nat.le_of_ble_eq_true rfl⟩ dX3_checkTile_30
        · skip
          exact fz_xt X Y htab hfl hW hl (by decide +kernel) (by decide +kernel) xk_io xi_io xm_io xg_io (List.mem_of_getElem? (i := 0) rfl) (by unfold exT; rw [if_neg (fun h => c17 h.2.2.2)]) dX3_checkTile_20 dX3_checkTile_23 dX3_checkTile_24 dX3_checkTile_26 dX3_checkTile_29 (Nat.le_of_ble_eq_true rfl) (Nat.le_of_ble_eq_true rfl) ⟨Nat.le_of_ble_eq_true rfl, Nat.le_of_ble_eq_true rfl⟩ ⟨Nat.le_of_ble_eq_true rfl, Nat.le_of_ble_eq_true rfl⟩
set_option maxHeartbeats 4000000 in
set_option maxRecDepth 100000 in
theorem c_X3_checkBlock (l : Launch) (hfl : l.stackTraces = false) (g : GG) (x y w h : Int32) (ws : va_W) : fz_CX l g yX3_checkBlock cX3_checkBlock 4 none 7 2 12 111 [.int x, .int y, .int w, .int h] (ws) (ws) none (exB x y w h) := by
  refine fz_CX.of (by decide) (Nat.le_of_ble_eq_true rfl) ?_
  intro p e s m args below meth c A ls X Y htab hW hl
  have hx := X.1
  have hb := X.2.1
  have hl : lv_has ls 4 [(0, .int x), (1, .int y), (2, .int w), (3, .int h)] := hl
  have X : fz_X p s m meth c RX3 cX3_checkBlock 4 none g A := X
  have hW : fz_W g A s (ws) s.heap [] := hW
  refine lv_iload_n hx hb dX3_checkBlock_0 rfl (lv_at hl 0 rfl) ?_
  refine lv_iload_n hx hb dX3_checkBlock_1 rfl (lv_at hl 1 rfl) ?_
  refine fz_xc X Y htab hW (c_X3_checkTile l hfl g x y _) lk_X3_48 (fun E k => by
    unfold exT at k
    unfold exB
    rcases Classical.em (okT x y) with z | z
    · rw [if_pos z] at k; cases k
    · rw [if_neg z] at k; rw [if_neg (fun q => z q.1)]; exact k) rfl ⟨Nat.le_of_ble_eq_true rfl, Nat.le_of_ble_eq_true rfl⟩ hl rfl (Nat.le_of_ble_eq_true rfl) dX3_checkBlock_2 ⟨Nat.le_of_ble_eq_true rfl, Nat.le_of_ble_eq_true rfl⟩ ⟨Nat.le_of_ble_eq_true rfl, Nat.le_of_ble_eq_true rfl⟩ (fun H locs hx2 hW => ?_)
  have k0 : okT x y := ex_n hx2
  refine lv_iload_n hx hb dX3_checkBlock_5 rfl (lv_at hl 2 rfl) ?_
  refine lv_iconst (v := 1) hx hb dX3_checkBlock_6 (by decide) ?_
  refine lv_icmp_lt (tgt := 31) hx hb dX3_checkBlock_7 (by decide) (fun c7 => ?_) (fun c7 => ?_)
  · skip
    exact fz_xt X Y htab hfl hW hl (by decide +kernel) (by decide +kernel) xk_io xi_io xm_io xg_io (List.mem_of_getElem? (i := 1) rfl) (by unfold exB; rw [if_neg (fun k => k.2.1 c7)]) dX3_checkBlock_31 dX3_checkBlock_34 dX3_checkBlock_35 dX3_checkBlock_37 dX3_checkBlock_40 (Nat.le_of_ble_eq_true rfl) (Nat.le_of_ble_eq_true rfl) ⟨Nat.le_of_ble_eq_true rfl, Nat.le_of_ble_eq_true rfl⟩ ⟨Nat.le_of_ble_eq_true rfl, Nat.le_of_ble_eq_true rfl⟩
  · skip
    refine lv_iload_n hx hb dX3_checkBlock_10 rfl (lv_at hl 2 rfl) ?_
    refine lv_bipush (v := 8) hx hb dX3_checkBlock_11 (by decide) ?_
    refine lv_iload_n hx hb dX3_checkBlock_13 rfl (lv_at hl 0 rfl) ?_
    refine lv_isub hx hb dX3_checkBlock_14 ?_
    refine lv_icmp_gt (tgt := 31) hx hb dX3_checkBlock_15 (by decide) (fun c15 => ?_) (fun c15 => ?_)
    · skip
      exact fz_xt X Y htab hfl hW hl (by decide +kernel) (by decide +kernel) xk_io xi_io xm_io xg_io (List.mem_of_getElem? (i := 1) rfl) (by unfold exB; rw [if_neg (fun k => k.2.2.1 c15)]) dX3_checkBlock_31 dX3_checkBlock_34 dX3_checkBlock_35 dX3_checkBlock_37 dX3_checkBlock_40 (Nat.le_of_ble_eq_true rfl) (Nat.le_of_ble_eq_true rfl) ⟨Nat.le_of_ble_eq_true rfl, Nat.le_of_ble_eq_true rfl⟩ ⟨Nat.le_of_ble_eq_true rfl, Nat.le_of_ble_eq_true rfl⟩
    · skip
      refine lv_iload_n hx hb dX3_checkBlock_18 rfl (lv_at hl 3 rfl) ?_
      refine lv_iconst (v := 1) hx hb dX3_checkBlock_19 (by decide) ?_
      refine lv_icmp_lt (tgt := 31) hx hb dX3_checkBlock_20 (by decide) (fun c20 => ?_) (fun c20 => ?_)
      · skip
        exact fz_xt X Y htab hfl hW hl (by decide +kernel) (by decide +kernel) xk_io xi_io xm_io xg_io (List.mem_of_getElem? (i := 1) rfl) (by unfold exB; rw [if_neg (fun k => k.2.2.2.1 c20)]) dX3_checkBlock_31 dX3_checkBlock_34 dX3_checkBlock_35 dX3_checkBlock_37 dX3_checkBlock_40 (Nat.le_of_ble_eq_true rfl) (Nat.le_of_ble_eq_true rfl) ⟨Nat.le_of_ble_eq_true rfl, Nat.le_of_ble_eq_true rfl⟩ ⟨Nat.le_of_ble_eq_true rfl, Nat.le_of_ble_eq_true rfl⟩
      · skip
        refine lv_iload_n hx hb dX3_checkBlock_23 rfl (lv_at hl 3 rfl) ?_
        refine lv_bipush (v := 6) hx hb dX3_checkBlock_24 (by decide) ?_
        refine lv_iload_n hx hb dX3_checkBlock_26 rfl (lv_at hl 1 rfl) ?_
        refine lv_isub hx hb dX3_checkBlock_27 ?_
        refine lv_icmp_le (tgt := 41) hx hb dX3_checkBlock_28 (by decide) (fun c28 => ?_) (fun c28 => ?_)
        · skip
          exact fz_xrv X (fz_cast (rfl) hW) (by unfold exB; exact if_pos ⟨k0, c7, c15, c20, c28⟩) ⟨Nat.le_of_ble_eq_true rfl, Nat.le_of_ble_eq_true rfl⟩ dX3_checkBlock_41
        · skip
          exact fz_xt X Y htab hfl hW hl (by decide +kernel) (by decide +kernel) xk_io xi_io xm_io xg_io (List.mem_of_getElem? (i := 1) rfl) (by unfold exB; rw [if_neg (fun k => c28 k.2.2.2.2)]) dX3_checkBlock_31 dX3_checkBlock_34 dX3_checkBlock_35 dX3_checkBlock_37 dX3_checkBlock_40 (Nat.le_of_ble_eq_true rfl) (Nat.le_of_ble_eq_true rfl) ⟨Nat.le_of_ble_eq_true rfl, Nat.le_of_ble_eq_true rfl⟩ ⟨Nat.le_of_ble_eq_true rfl, Nat.le_of_ble_eq_true rfl⟩
set_option maxHeartbeats 4000000 in
set_option maxRecDepth 100000 in
theorem c_X3_checkBudget (l : Launch) (hfl : l.stackTraces = false) (g : GG) (b : Int32) (ws : va_W) : fz_CX l g yX3_checkBudget cX3_checkBudget 1 none 6 1 6 90 [.int b] (ws) (ws) none (exG b) := by
  refine fz_CX.of (by decide) (Nat.le_of_ble_eq_true rfl) ?_
  intro p e s m args below meth c A ls X Y htab hW hl
  have hx := X.1
  have hb := X.2.1
  have hl : lv_has ls 1 [(0, .int b)] := hl
  have X : fz_X p s m meth c RX3 cX3_checkBudget 1 none g A := X
  have hW : fz_W g A s (ws) s.heap [] := hW
  refine lv_iload_n hx hb dX3_checkBudget_0 rfl (lv_at hl 0 rfl) ?_
  refine lv_if_lt (tgt := 11) hx hb dX3_checkBudget_1 (by decide) (fun c1 => ?_) (fun c1 => ?_)
  · skip
    exact fz_xt X Y htab hfl hW hl (by decide +kernel) (by decide +kernel) xk_ia xi_ia xm_ia xg_ia (List.mem_of_getElem? (i := 4) rfl) (by unfold exG; rw [if_neg (fun h => h.1 c1)]) dX3_checkBudget_11 dX3_checkBudget_14 dX3_checkBudget_15 dX3_checkBudget_17 dX3_checkBudget_20 (Nat.le_of_ble_eq_true rfl) (Nat.le_of_ble_eq_true rfl) ⟨Nat.le_of_ble_eq_true rfl, Nat.le_of_ble_eq_true rfl⟩ ⟨Nat.le_of_ble_eq_true rfl, Nat.le_of_ble_eq_true rfl⟩
  · skip
    refine lv_iload_n hx hb dX3_checkBudget_4 rfl (lv_at hl 0 rfl) ?_
    refine lv_sipush (v := 300) hx hb dX3_checkBudget_5 (by decide) ?_
    refine lv_icmp_le (tgt := 21) hx hb dX3_checkBudget_8 (by decide) (fun c8 => ?_) (fun c8 => ?_)
    · skip
      exact fz_xrv X (fz_cast (rfl) hW) (by unfold exG; exact if_pos ⟨c1, c8⟩) ⟨Nat.le_of_ble_eq_true rfl, Nat.le_of_ble_eq_true rfl⟩ dX3_checkBudget_21
    · skip
      exact fz_xt X Y htab hfl hW hl (by decide +kernel) (by decide +kernel) xk_ia xi_ia xm_ia xg_ia (List.mem_of_getElem? (i := 4) rfl) (by unfold exG; rw [if_neg (fun h => c8 h.2)]) dX3_checkBudget_11 dX3_checkBudget_14 dX3_checkBudget_15 dX3_checkBudget_17 dX3_checkBudget_20 (Nat.le_of_ble_eq_true rfl) (Nat.le_of_ble_eq_true rfl) ⟨Nat.le_of_ble_eq_true rfl, Nat.le_of_ble_eq_true rfl⟩ ⟨Nat.le_of_ble_eq_true rfl, Nat.le_of_ble_eq_true rfl⟩
