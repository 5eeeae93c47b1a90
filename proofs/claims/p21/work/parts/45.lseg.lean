/-! the law in pieces: what each stands on -/
theorem ce {cells slots i j : Nat} (h : cells + 20 ≤ 600074 ∧ slots + 500 ≤ 7301550) (h1 : i ≤ 20) (h2 : j ≤ 500) : cells + i ≤ room_1.cells ∧ slots + j ≤ room_1.slots := ⟨show cells + i ≤ 600074 by omega, show slots + j ≤ 7301550 by omega⟩
theorem ce0 {cells slots : Nat} (h : cells + 20 ≤ 600074 ∧ slots + 500 ≤ 7301550) : cells ≤ room_1.cells ∧ slots ≤ room_1.slots := ⟨show cells ≤ 600074 by omega, show slots ≤ 7301550 by omega⟩
theorem low_is (z : Int32) {n : Nat} (h0 : 0 < n) (hn : n < 2 ^ 31) : ∃ j, j < n ∧ lowI z (nI n) = nI j := by
  obtain ⟨j, hj, ej⟩ := pk_andE z (m := 2147483647) 31 (by decide)
  refine ⟨j % n, Nat.mod_lt _ h0, ?_⟩
  unfold lowI
  rw [ej]
  exact pk_rem (by omega) h0 hn
theorem fl_ix {a b w z : Nat} (h1 : 1 ≤ w) (h8 : w ≤ 8) (hz : z < 48) : 8 * (nI b + nI z / nI w) + nI a + (nI z - nI z / nI w * nI w) = nI (8 * (b + z / w) + a + z % w) := by
  rw [pk_rem (by omega) h1 (by omega), pk_div (by omega) h1 (by omega), ← nI_add, ← nI_add, ← pk_mul, ← nI_add]
  rfl
theorem fl_dm {w g z : Nat} (h1 : 1 ≤ w) (hz : z < w * g) : z / w < g ∧ z % w < w :=
  ⟨(Nat.div_lt_iff_lt_mul h1).mpr (by rw [Nat.mul_comm]; exact hz), Nat.mod_lt _ h1⟩
theorem fl_48 {w g : Nat} (h1 : w ≤ 8) (h2 : g ≤ 6) : w * g ≤ 48 := Nat.le_trans (Nat.mul_le_mul h1 h2) (by decide)
theorem okB_n {i j w z : Nat} (h1 : 1 ≤ w) (h2 : 1 ≤ z) (h3 : i + w ≤ 8) (h4 : j + z ≤ 6) : okB (nI i) (nI j) (nI w) (nI z) := by
  have e8 : (8 : Int32) - nI i = nI (8 - i) := pk_sub (a := 8) (by omega)
  have e6 : (6 : Int32) - nI j = nI (6 - j) := pk_sub (a := 6) (by omega)
  refine ⟨⟨nI_pos (by omega), fun k => ?_, nI_pos (by omega), (nI_ltI (a := j) (b := 6) (by omega) (by omega)).mpr (by omega)⟩, fun k => ?_, fun k => ?_, fun k => ?_, ?_⟩
  · have := (nI_leI (a := 8) (b := i) (by omega) (by omega)).mp k
    omega
  · have := (nI_ltI (a := w) (b := 1) (by omega) (by omega)).mp k
    omega
  · rw [e8] at k
    have := (nI_ltI (a := 8 - i) (b := w) (by omega) (by omega)).mp k
    omega
  · have := (nI_ltI (a := z) (b := 1) (by omega) (by omega)).mp k
    omega
  · rw [e6]
    exact (nI_leI (by omega) (by omega)).mpr (by omega)
theorem okP_n {k : Nat} (h : k < 256) : okP (nI k) := ⟨nI_pos (by omega), (nI_leI (a := k) (b := 255) (by omega) (by omega)).mpr (by omega)⟩
theorem okG_n {k : Nat} (h : k ≤ 300) : okG (nI k) := ⟨nI_pos (by omega), (nI_leI (a := k) (b := 300) (by omega) (by omega)).mpr (by omega)⟩
theorem okT_n {i j : Nat} (h1 : i < 8) (h2 : j < 6) : okT (nI i) (nI j) ∧ tN (nI i) (nI j) = 8 * j + i := by
  refine ⟨⟨nI_pos (by omega), fun k => ?_, nI_pos (by omega), (nI_ltI (a := j) (b := 6) (by omega) (by omega)).mpr (by omega)⟩, ?_⟩
  · have := (nI_leI (a := 8) (b := i) (by omega) (by omega)).mp k
    omega
  · unfold tN
    rw [nI_clamp (by omega), nI_clamp (by omega)]
/-- the class's state and the law's rows, at a time of at most T -/
def Bo (v : SV) (x : LV) (T : Nat) : Prop := Rel v v.us x ∧ Inv v T
abbrev loB (b0 f : Nat) (r : Nat → Nat) (K : Nat) : List (Nat × Value) := [(0, .ref b0), (1, .ref f), (2, .ref (r 0)), (3, .ref (r 1)), (4, .ref (r 2)), (5, .ref (r 3)), (6, .ref (r 4)), (7, .ref (r 5)), (8, .ref (r 6)), (9, .int (nI K))]
abbrev loP (b0 f : Nat) (r : Nat → Nat) (K : Nat) (xv yv : Int32) (kd lf tp wd hg : Nat) : List (Nat × Value) := [(0, .ref b0), (1, .ref f), (2, .ref (r 0)), (3, .ref (r 1)), (4, .ref (r 2)), (5, .ref (r 3)), (6, .ref (r 4)), (7, .ref (r 5)), (8, .ref (r 6)), (9, .int (nI K)), (10, .int xv), (11, .int yv), (12, .int (nI kd)), (13, .int (nI lf)), (14, .int (nI tp)), (15, .int (nI wd)), (16, .int (nI hg))]
set_option maxRecDepth 100000 in
theorem fz_C.lo {l : Launch} {g : GG} {y : MethodName} {b : ByteArray} {n : Nat} {ret : Option FieldType} {rf rl : Nat} {as : List Value} {v9 : Option Value} {f : Nat} {a d : Nat → Nat} {v u v1 u1 : SV} (h : fz_C l g y b n ret rf rl as (FW g f a d v u) (FW g f a d v1 u1) v9) (r : Nat → Nat) (x : LV) (q : Nat) (o : Nat → Int32) : fz_C l g y b n ret rf rl as (LO g f a d v u r x q o) (LO g f a d v1 u1 r x q o) v9 :=
  fz_C.fr h [0, 1, 2, 3, 4, 5, 6, 7, 8, 9, 10, 11, 12, 13, 14, 15, 16, 17, 18, 19, 20, 21, 22, 23, 24, 25, 26, 27, 28, 29, 30, 31, 32, 33, 34] [35, 36, 37, 38, 39, 40, 41, 42] [8, 9, 10, 11, 12, 13, 14, 15, 16, 17, 18, 19, 20, 21, 22, 23, 24, 25, 26, 27, 28, 29, 30, 31, 32, 33, 34, 35, 36, 37, 38, 39, 40, 41, 42, 0, 1, 2, 3, 4, 5, 6, 7] rfl rfl rfl rfl (by decide) rfl rfl
set_option maxHeartbeats 4000000 in
set_option maxRecDepth 100000 in
theorem la_pro {p : Program} {l : Launch} {e : Env} {s : State} {m : MethodId} {args : Array Value} {below : List Frame} {meth : Method} {c : Code} {H : Heap} {locs : List Loc} {cells slots : Nat} {Q : State → Prop} {rt : Option FieldType} {g : GG} {A : Nat → Prop} {ls : Array Slot} {b0 L K f : Nat} {xs : Nat → Int32} {a b r : Nat → Nat} {v u : SV} {x : LV} (X : fz_X p s m meth c RL cL_law 20 rt g A) (hcs : cells + 20 ≤ 600074 ∧ slots + 500 ≤ 7301550) (hX : va_X b0 L xs s s.heap) (hbl : b0 < s.heap.size) (hbA : ¬ A b0) (hL : L ≤ 260) (hK : K < 60) (hW : fz_W g A s (LW g f a b v u r x) H locs) (hl : lv_has ls 20 (loB b0 f r K)) (kk : ∀ (xv yv : Int32) (kd lf tp wd hg : Nat) (H : Heap) (locs : List Loc) (ls : Array Slot), kd < 12 → lf < 8 → tp < 6 → 1 ≤ wd → 1 ≤ hg → lf + wd ≤ 8 → tp + hg ≤ 6 → fz_W g A s (LW g f a b v u r x) H locs → lv_has ls 20 (loP b0 f r K xv yv kd lf tp wd hg) → W p l e room_1 s m args below meth c H locs cells slots Q (F0 m 198 ls [])) : W p l e room_1 s m args below meth c H locs cells slots Q (F0 m 80 ls []) := by
  have hx := X.1
  have hb := X.2.1
  have hl : lv_has ls 20 [(0, .ref b0), (1, .ref f), (2, .ref (r 0)), (3, .ref (r 1)), (4, .ref (r 2)), (5, .ref (r 3)), (6, .ref (r 4)), (7, .ref (r 5)), (8, .ref (r 6)), (9, .int (nI K))] := hl
  have hW : fz_W g A s (LW g f a b v u r x) H locs := hW
  refine lv_aload_n hx hb dL_law_80 rfl (lv_at hl 0 rfl) ?_
  refine lv_iconst (v := 2) hx hb dL_law_81 (by decide) ?_
  refine lv_iload hx hb dL_law_82 (lv_at hl 9 rfl) ?_
  refine lv_imul hx hb dL_law_84 ?_
  refine fz_top (x' := nI (2 * K)) (pk_mul 2 K) ?_
  refine fz_cC X hW hX hbl hbA (c_L_cell l g _ b0 L xs (2 * K) (by omega) (by omega)) lk_L_85 rfl ⟨Nat.le_of_ble_eq_true rfl, Nat.le_of_ble_eq_true rfl⟩ hl rfl (Nat.le_of_ble_eq_true rfl) dL_law_85 (ce0 hcs) (fun H locs hW => ?_)
  refine lv_topi (fun xv e_xv => ?_)
  refine lv_istore (lv' := [(10, .int xv), (0, .ref b0), (1, .ref f), (2, .ref (r 0)), (3, .ref (r 1)), (4, .ref (r 2)), (5, .ref (r 3)), (6, .ref (r 4)), (7, .ref (r 5)), (8, .ref (r 6)), (9, .int (nI K))]) hx hb dL_law_88 hl (by decide) rfl (fun ls hl => ?_)
  refine lv_aload_n hx hb dL_law_90 rfl (lv_at hl 1 rfl) ?_
  refine lv_iconst (v := 2) hx hb dL_law_91 (by decide) ?_
  refine lv_iload hx hb dL_law_92 (lv_at hl 10 rfl) ?_
  refine lv_imul hx hb dL_law_94 ?_
  refine lv_iconst (v := 1) hx hb dL_law_95 (by decide) ?_
  refine lv_iadd hx hb dL_law_96 ?_
  refine fz_top (x' := nI (2 * K + 1)) (by show nI 2 * nI K + nI 1 = _; rw [pk_mul, nI_add]) ?_
  refine fz_cC X hW hX hbl hbA (c_L_cell l g _ b0 L xs (2 * K + 1) (by omega) (by omega)) lk_L_85 rfl ⟨Nat.le_of_ble_eq_true rfl, Nat.le_of_ble_eq_true rfl⟩ hl rfl (Nat.le_of_ble_eq_true rfl) dL_law_97 (ce0 hcs) (fun H locs hW => ?_)
  refine lv_topi (fun yv e_yv => ?_)
  refine lv_istore (lv' := [(11, .int yv), (10, .int xv), (0, .ref b0), (1, .ref f), (2, .ref (r 0)), (3, .ref (r 1)), (4, .ref (r 2)), (5, .ref (r 3)), (6, .ref (r 4)), (7, .ref (r 5)), (8, .ref (r 6)), (9, .int (nI K))]) hx hb dL_law_100 hl (by decide) rfl (fun ls hl => ?_)
  refine lv_iload hx hb dL_law_102 (lv_at hl 1 rfl) ?_
  refine lv_bipush (v := 12) hx hb dL_law_104 (by decide) ?_
  refine fz_cSi X hW (c_L_low l g xv 12 (by decide) _) lk_L_89 rfl ⟨Nat.le_of_ble_eq_true rfl, Nat.le_of_ble_eq_true rfl⟩ hl rfl (Nat.le_of_ble_eq_true rfl) dL_law_106 (ce0 hcs) (fun H locs hW => ?_)
  obtain ⟨kd, hkd, ekd⟩ := low_is xv (n := 12) (by decide) (by decide)
  refine fz_top (x' := nI kd) ekd ?_
  refine lv_istore (lv' := [(12, .int (nI kd)), (11, .int yv), (10, .int xv), (0, .ref b0), (1, .ref f), (2, .ref (r 0)), (3, .ref (r 1)), (4, .ref (r 2)), (5, .ref (r 3)), (6, .ref (r 4)), (7, .ref (r 5)), (8, .ref (r 6)), (9, .int (nI K))]) hx hb dL_law_109 hl (by decide) rfl (fun ls hl => ?_)
  refine lv_iload hx hb dL_law_111 (lv_at hl 1 rfl) ?_
  refine lv_bipush (v := 8) hx hb dL_law_113 (by decide) ?_
  refine fz_cSi X hW (c_L_low l g yv 8 (by decide) _) lk_L_89 rfl ⟨Nat.le_of_ble_eq_true rfl, Nat.le_of_ble_eq_true rfl⟩ hl rfl (Nat.le_of_ble_eq_true rfl) dL_law_115 (ce0 hcs) (fun H locs hW => ?_)
  obtain ⟨lf, hlf, elf⟩ := low_is yv (n := 8) (by decide) (by decide)
  refine fz_top (x' := nI lf) elf ?_
  refine lv_istore (lv' := [(13, .int (nI lf)), (12, .int (nI kd)), (11, .int yv), (10, .int xv), (0, .ref b0), (1, .ref f), (2, .ref (r 0)), (3, .ref (r 1)), (4, .ref (r 2)), (5, .ref (r 3)), (6, .ref (r 4)), (7, .ref (r 5)), (8, .ref (r 6)), (9, .int (nI K))]) hx hb dL_law_118 hl (by decide) rfl (fun ls hl => ?_)
  refine lv_iload hx hb dL_law_120 (lv_at hl 2 rfl) ?_
  refine lv_iconst (v := 3) hx hb dL_law_122 (by decide) ?_
  refine lv_ishr hx hb dL_law_123 ?_
  refine lv_bipush (v := 6) hx hb dL_law_124 (by decide) ?_
  refine fz_cSi X hW (c_L_low l g (yv >>> ((3 : Int32) &&& 31)) 6 (by decide) _) lk_L_89 rfl ⟨Nat.le_of_ble_eq_true rfl, Nat.le_of_ble_eq_true rfl⟩ hl rfl (Nat.le_of_ble_eq_true rfl) dL_law_126 (ce0 hcs) (fun H locs hW => ?_)
  obtain ⟨tp, htp, etp⟩ := low_is (yv >>> ((3 : Int32) &&& 31)) (n := 6) (by decide) (by decide)
  refine fz_top (x' := nI tp) etp ?_
  refine lv_istore (lv' := [(14, .int (nI tp)), (13, .int (nI lf)), (12, .int (nI kd)), (11, .int yv), (10, .int xv), (0, .ref b0), (1, .ref f), (2, .ref (r 0)), (3, .ref (r 1)), (4, .ref (r 2)), (5, .ref (r 3)), (6, .ref (r 4)), (7, .ref (r 5)), (8, .ref (r 6)), (9, .int (nI K))]) hx hb dL_law_129 hl (by decide) rfl (fun ls hl => ?_)
  refine lv_iconst (v := 1) hx hb dL_law_131 (by decide) ?_
  refine lv_iload hx hb dL_law_132 (lv_at hl 3 rfl) ?_
  refine lv_bipush (v := 6) hx hb dL_law_134 (by decide) ?_
  refine lv_ishr hx hb dL_law_136 ?_
  refine lv_iload hx hb dL_law_137 (lv_at hl 4 rfl) ?_
  refine lv_bipush (v := 20) hx hb dL_law_139 (by decide) ?_
  refine lv_ishr hx hb dL_law_141 ?_
  refine lv_iconst (v := 3) hx hb dL_law_142 (by decide) ?_
  refine fz_cSi X hW (c_L_low l g (xv >>> ((20 : Int32) &&& 31)) 3 (by decide) _) lk_L_89 rfl ⟨Nat.le_of_ble_eq_true rfl, Nat.le_of_ble_eq_true rfl⟩ hl rfl (Nat.le_of_ble_eq_true rfl) dL_law_143 (ce0 hcs) (fun H locs hW => ?_)
  have join169 : ∀ (nn : Nat), 1 ≤ nn → lf + nn ≤ 8 → ∀ (ls : Array Slot), lv_has ls 20 [(14, .int (nI tp)), (13, .int (nI lf)), (12, .int (nI kd)), (11, .int yv), (10, .int xv), (0, .ref b0), (1, .ref f), (2, .ref (r 0)), (3, .ref (r 1)), (4, .ref (r 2)), (5, .ref (r 3)), (6, .ref (r 4)), (7, .ref (r 5)), (8, .ref (r 6)), (9, .int (nI K))] → W p l e room_1 s m args below meth c H locs cells slots Q (F0 m 169 ls [.int (nI nn), .int (yv >>> (6 &&& 31)), .int 1]) := by
    intro nn hn1 hn8 ls hl
    refine fz_cSi X hW (c_L_low l g (yv >>> ((6 : Int32) &&& 31)) (nI nn) (nI_ne0 (by omega) (by omega)) _) lk_L_89 rfl ⟨Nat.le_of_ble_eq_true rfl, Nat.le_of_ble_eq_true rfl⟩ hl rfl (Nat.le_of_ble_eq_true rfl) dL_law_169 (ce0 hcs) (fun H locs hW => ?_)
    obtain ⟨w0, hw0, ew0⟩ := low_is (yv >>> ((6 : Int32) &&& 31)) (n := nn) (by omega) (by omega)
    refine lv_iadd hx hb dL_law_172 ?_
    refine fz_top (x' := nI (1 + w0)) (by rw [ew0]; exact nI_add 1 w0) ?_
    refine lv_istore (lv' := [(15, .int (nI (1 + w0))), (14, .int (nI tp)), (13, .int (nI lf)), (12, .int (nI kd)), (11, .int yv), (10, .int xv), (0, .ref b0), (1, .ref f), (2, .ref (r 0)), (3, .ref (r 1)), (4, .ref (r 2)), (5, .ref (r 3)), (6, .ref (r 4)), (7, .ref (r 5)), (8, .ref (r 6)), (9, .int (nI K))]) hx hb dL_law_173 hl (by decide) rfl (fun ls hl => ?_)
    refine lv_iconst (v := 1) hx hb dL_law_175 (by decide) ?_
    refine lv_iload hx hb dL_law_176 (lv_at hl 4 rfl) ?_
    refine lv_bipush (v := 9) hx hb dL_law_178 (by decide) ?_
    refine lv_ishr hx hb dL_law_180 ?_
    refine lv_iload hx hb dL_law_181 (lv_at hl 1 rfl) ?_
    refine lv_iconst (v := 5) hx hb dL_law_183 (by decide) ?_
    have join192 : ∀ (mm : Nat), 1 ≤ mm → tp + mm ≤ 6 → ∀ (ls : Array Slot), lv_has ls 20 [(15, .int (nI (1 + w0))), (14, .int (nI tp)), (13, .int (nI lf)), (12, .int (nI kd)), (11, .int yv), (10, .int xv), (0, .ref b0), (1, .ref f), (2, .ref (r 0)), (3, .ref (r 1)), (4, .ref (r 2)), (5, .ref (r 3)), (6, .ref (r 4)), (7, .ref (r 5)), (8, .ref (r 6)), (9, .int (nI K))] → W p l e room_1 s m args below meth c H locs cells slots Q (F0 m 192 ls [.int (nI mm), .int (yv >>> (9 &&& 31)), .int 1]) := by
      intro mm hm1 hm6 ls hl
      refine fz_cSi X hW (c_L_low l g (yv >>> ((9 : Int32) &&& 31)) (nI mm) (nI_ne0 (by omega) (by omega)) _) lk_L_89 rfl ⟨Nat.le_of_ble_eq_true rfl, Nat.le_of_ble_eq_true rfl⟩ hl rfl (Nat.le_of_ble_eq_true rfl) dL_law_192 (ce0 hcs) (fun H locs hW => ?_)
      obtain ⟨h0, hh0, eh0⟩ := low_is (yv >>> ((9 : Int32) &&& 31)) (n := mm) (by omega) (by omega)
      refine lv_iadd hx hb dL_law_195 ?_
      refine fz_top (x' := nI (1 + h0)) (by rw [eh0]; exact nI_add 1 h0) ?_
      refine lv_istore (lv' := [(16, .int (nI (1 + h0))), (15, .int (nI (1 + w0))), (14, .int (nI tp)), (13, .int (nI lf)), (12, .int (nI kd)), (11, .int yv), (10, .int xv), (0, .ref b0), (1, .ref f), (2, .ref (r 0)), (3, .ref (r 1)), (4, .ref (r 2)), (5, .ref (r 3)), (6, .ref (r 4)), (7, .ref (r 5)), (8, .ref (r 6)), (9, .int (nI K))]) hx hb dL_law_196 hl (by decide) rfl (fun ls hl => ?_)
      exact kk xv yv kd lf tp (1 + w0) (1 + h0) _ _ _ hkd hlf htp (by omega) (by omega) (by omega) (by omega) hW (lv_sub hl [7, 8, 9, 10, 11, 12, 13, 14, 15, 16, 6, 5, 4, 3, 2, 1, 0] rfl)
    refine lv_icmp_ge (tgt := 191) hx hb dL_law_184 (by decide) (fun c184 => ?_) (fun c184 => ?_)
    · skip
      have h184 : 5 ≤ tp := (nI_leI (a := 5) (b := tp) (by omega) (by omega)).mp c184
      refine lv_iconst (v := 1) hx hb dL_law_191 (by decide) ?_
      exact join192 1 (by omega) (by omega) _ (lv_sub hl [0, 1, 2, 3, 4, 5, 6, 7, 8, 9, 10, 11, 12, 13, 14, 15] rfl)
    · skip
      have h184 : tp < 5 := Nat.not_le.mp (fun z => c184 ((nI_leI (a := 5) (b := tp) (by omega) (by omega)).mpr z))
      refine lv_iconst (v := 2) hx hb dL_law_187 (by decide) ?_
      refine lv_goto (tgt := 192) hx hb dL_law_188 (by decide) ?_
      exact join192 2 (by omega) (by omega) _ (lv_sub hl [0, 1, 2, 3, 4, 5, 6, 7, 8, 9, 10, 11, 12, 13, 14, 15] rfl)
  refine lv_if_ne (tgt := 157) hx hb dL_law_146 (by decide) (fun c146 => ?_) (fun c146 => ?_)
  · skip
    refine lv_iload hx hb dL_law_157 (lv_at hl 1 rfl) ?_
    refine lv_bipush (v := 6) hx hb dL_law_159 (by decide) ?_
    refine lv_icmp_ge (tgt := 168) hx hb dL_law_161 (by decide) (fun c161 => ?_) (fun c161 => ?_)
    · skip
      have h161 : 6 ≤ lf := (nI_leI (a := 6) (b := lf) (by omega) (by omega)).mp c161
      refine lv_iconst (v := 1) hx hb dL_law_168 (by decide) ?_
      exact join169 1 (by omega) (by omega) _ (lv_sub hl [0, 1, 2, 3, 4, 5, 6, 7, 8, 9, 10, 11, 12, 13, 14] rfl)
    · skip
      have h161 : lf < 6 := Nat.not_le.mp (fun z => c161 ((nI_leI (a := 6) (b := lf) (by omega) (by omega)).mpr z))
      refine lv_iconst (v := 2) hx hb dL_law_164 (by decide) ?_
      refine lv_goto (tgt := 169) hx hb dL_law_165 (by decide) ?_
      exact join169 2 (by omega) (by omega) _ (lv_sub hl [0, 1, 2, 3, 4, 5, 6, 7, 8, 9, 10, 11, 12, 13, 14] rfl)
  · skip
    refine lv_bipush (v := 8) hx hb dL_law_149 (by decide) ?_
    refine lv_iload hx hb dL_law_151 (lv_at hl 1 rfl) ?_
    refine lv_isub hx hb dL_law_153 ?_
    refine fz_top (x' := nI (8 - lf)) (pk_sub (a := 8) (by omega)) ?_
    refine lv_goto (tgt := 169) hx hb dL_law_154 (by decide) ?_
    exact join169 (8 - lf) (by omega) (by omega) _ (lv_sub hl [0, 1, 2, 3, 4, 5, 6, 7, 8, 9, 10, 11, 12, 13, 14] rfl)
set_option maxHeartbeats 4000000 in
set_option maxRecDepth 100000 in
theorem la_same {p : Program} {l : Launch} {e : Env} {s : State} {m : MethodId} {args : Array Value} {below : List Frame} {meth : Method} {c : Code} {H : Heap} {locs : List Loc} {cells slots : Nat} {Q : State → Prop} {rt : Option FieldType} {g : GG} {A : Nat → Prop} {ls : Array Slot} {b0 L K f : Nat} {xs : Nat → Int32} {a b r : Nat → Nat} {v u : SV} {x : LV} {T : Nat} (X : fz_X p s m meth c RL cL_law 20 rt g A) (Y : fz_Y s A) (hN : va_Nc XIA XIO s) (hfl : l.stackTraces = false) (hcs : cells + 20 ≤ 600074 ∧ slots + 500 ≤ 7301550) (hB : Bo v x T) (hW : fz_W g A s (LW g f a b v u r x) H locs) (hl : lv_has ls 20 (loB b0 f r K)) (kk : ∀ (H : Heap) (locs : List Loc) (ls : Array Slot), fz_W g A s (LW g f a b v u r x) H locs → lv_has ls 20 (loB b0 f r K) → W p l e room_1 s m args below meth c H locs (cells + 1) (slots + 6) Q (F0 m 773 ls [])) : W p l e room_1 s m args below meth c H locs cells slots Q (F0 m 754 ls []) := by
  have hx := X.1
  have hb := X.2.1
  have hl : lv_has ls 20 [(0, .ref b0), (1, .ref f), (2, .ref (r 0)), (3, .ref (r 1)), (4, .ref (r 2)), (5, .ref (r 3)), (6, .ref (r 4)), (7, .ref (r 5)), (8, .ref (r 6)), (9, .int (nI K))] := hl
  have hW : fz_W g A s (LW g f a b v u r x) H locs := hW
  refine lv_aload_n hx hb dL_law_754 rfl (lv_at hl 1 rfl) ?_
  refine lv_aload_n hx hb dL_law_755 rfl (lv_at hl 2 rfl) ?_
  refine lv_aload_n hx hb dL_law_756 rfl (lv_at hl 3 rfl) ?_
  refine lv_aload hx hb dL_law_757 (lv_at hl 4 rfl) ?_
  refine lv_aload hx hb dL_law_759 (lv_at hl 5 rfl) ?_
  refine lv_aload hx hb dL_law_761 (lv_at hl 7 rfl) ?_
  refine lv_aload hx hb dL_law_763 (lv_at hl 8 rfl) ?_
  refine fz_cP X Y hN hW (c_L_same l hfl g f a b v u r x T hB.1 hB.2) lk_L_109 rfl ⟨Nat.le_of_ble_eq_true rfl, Nat.le_of_ble_eq_true rfl⟩ hl rfl (Nat.le_of_ble_eq_true rfl) dL_law_765 (ce hcs (by omega) (by omega)) (fun H locs hW => ?_)
  refine lv_if_ne (tgt := 773) hx hb dL_law_768 (by decide) (fun c768 => ?_) (fun c768 => ?_)
  · skip
    exact kk _ _ _ hW (lv_sub hl [0, 1, 2, 3, 4, 5, 6, 7, 8, 9] rfl)
  · first | exact absurd c768 (by decide) | exact absurd (by decide) c768
