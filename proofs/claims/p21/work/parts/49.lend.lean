/-! the law's end: the steps that are told -/
theorem itV_s (v : SV) : ∀ k, itV v (k + 1) = psV (itV v k) 300 := by
  intro k
  induction k generalizing v with
  | zero => rfl
  | succ k ih => exact ih (psV v 300)
theorem it_inv {y : Int32} : ∀ (i T : Nat) (v : SV) (x : LV), Rel v y x → Inv v T → T + i < 2 ^ 20 → ∃ x1, Rel (itV v i) y x1 ∧ Inv (itV v i) (T + i) := by
  intro i
  induction i with
  | zero => intro T v x hr hi _; exact ⟨x, hr, hi⟩
  | succ i ih =>
    intro T v x hr hi hT
    obtain ⟨x1, p1, p2⟩ := rel_ps hr hi (by omega) 300
    obtain ⟨x2, q1, q2⟩ := ih (T + 1) (psV v 300) x1 p1 p2 (by omega)
    exact ⟨x2, q1, by rw [show T + (i + 1) = T + 1 + i by omega]; exact q2⟩
theorem lg_zero {x y : Int64} (h : lg_cmp x y = 0) : x = y := by
  unfold lg_cmp at h
  split at h
  · exact absurd h (by decide)
  · split at h
    · assumption
    · exact absurd h (by decide)
theorem ok_300 : okG 300 := okG_n (k := 300) (by omega)
theorem ok_0 : okG 0 := okG_n (k := 0) (by omega)
theorem al_ne {v : SV} (h : ¬ alI v = 0) : v.wm = 0 ∧ usF v 48 = 0 := Classical.byContradiction (fun z => h ((alI_0 v).mpr z))
set_option maxHeartbeats 8000000 in
set_option maxRecDepth 100000 in
theorem la_end {p : Program} {l : Launch} {e : Env} {s : State} {m : MethodId} {args : Array Value} {below : List Frame} {meth : Method} {c : Code} {H : Heap} {locs : List Loc} {cells slots : Nat} {Q : State → Prop} {rt : Option FieldType} {g : GG} {A : Nat → Prop} {ls : Array Slot} {b0 L K f : Nat} {xs : Nat → Int32} {a b r : Nat → Nat} {v u : SV} {x : LV} {T : Nat} (X : fz_X p s m meth c RL cL_law 20 rt g A) (Y : fz_Y s A) (hN : va_Nc XIA XIO s) (hfl : l.stackTraces = false) (hcs : cells + 20 ≤ 600074 ∧ slots + 500 ≤ 7301550) (hB : Bo v x T) (hT : T + 200 < 2 ^ 20) (hW : fz_W g A s (LW g f a b v u r x) H locs) (hl : lv_has ls 20 (loB b0 f r K)) (kk : ∀ (v u : SV) (x : LV) (H : Heap) (locs : List Loc) (ls : Array Slot), fz_W g A s (LW g f a b v u r x) H locs → W p l e room_1 s m args below meth c H locs (cells + 2) (slots + 12) Q (F0 m 876 ls [.int 1])) : W p l e room_1 s m args below meth c H locs cells slots Q (F0 m 779 ls []) := by
  have hx := X.1
  have hb := X.2.1
  have hl : lv_has ls 20 [(0, .ref b0), (1, .ref f), (2, .ref (r 0)), (3, .ref (r 1)), (4, .ref (r 2)), (5, .ref (r 3)), (6, .ref (r 4)), (7, .ref (r 5)), (8, .ref (r 6)), (9, .int (nI K))] := hl
  have hW : fz_W g A s (LW g f a b v u r x) H locs := hW
  refine lv_aload_n hx hb dL_law_779 rfl (lv_at hl 1 rfl) ?_
  refine lv_sipush (v := 300) hx hb dL_law_780 (by decide) ?_
  refine fz_cVi X hW (fz_C.lf (k_X3_stepsToGo l g f a b v u 300 (inv_sok hB.2.1) ok_300) r x) lk_L_113 (ci := 3) (q0 := 0) rfl rfl rfl rfl ⟨Nat.le_of_ble_eq_true rfl, Nat.le_of_ble_eq_true rfl⟩ hl rfl (Nat.le_of_ble_eq_true rfl) dL_law_783 (ce0 hcs) (fun H locs hW => ?_)
  obtain ⟨j, j6, ej, hj1, hj2⟩ := stg_end u hB.1 hB.2 hT
  generalize (stgF 300 (coV u v) 0 100).1 = z1 at ej ⊢
  generalize (stgF 300 (coV u v) 0 100).2 = u1 at hW
  refine fz_top (x' := nI j) ej ?_
  refine lv_istore (lv' := [(9, .int (nI j)), (0, .ref b0), (1, .ref f), (2, .ref (r 0)), (3, .ref (r 1)), (4, .ref (r 2)), (5, .ref (r 3)), (6, .ref (r 4)), (7, .ref (r 5)), (8, .ref (r 6))]) hx hb dL_law_786 hl (by decide) rfl (fun ls hl => ?_)
  refine lv_iconst (v := 0) hx hb dL_law_788 (by decide) ?_
  refine lv_istore (lv' := [(10, .int 0), (9, .int (nI j)), (0, .ref b0), (1, .ref f), (2, .ref (r 0)), (3, .ref (r 1)), (4, .ref (r 2)), (5, .ref (r 3)), (6, .ref (r 4)), (7, .ref (r 5)), (8, .ref (r 6))]) hx hb dL_law_789 hl (by decide) rfl (fun ls hl => ?_)
  have loop791 : ∀ (k : Nat) (i : Nat), i ≤ j → j < i + k → ∀ (H : Heap) (locs : List Loc) (ls : Array Slot), fz_W g A s (LW g f a b (itV v i) u1 r x) H locs → lv_has ls 20 [(0, .ref b0), (1, .ref f), (2, .ref (r 0)), (3, .ref (r 1)), (4, .ref (r 2)), (5, .ref (r 3)), (6, .ref (r 4)), (7, .ref (r 5)), (8, .ref (r 6)), (9, .int (nI j)), (10, .int (nI i))] → W p l e room_1 s m args below meth c H locs cells slots Q (F0 m 791 ls []) := by
    intro k
    induction k with
    | zero =>
      intro i hi hk
      omega
    | succ k ih791 =>
      intro i hi hk H locs ls hW hl
      obtain ⟨xi, hri, hii⟩ := it_inv i T v x hB.1 hB.2 (by omega)
      refine lv_iload hx hb dL_law_791 (lv_at hl 10 rfl) ?_
      refine lv_iload hx hb dL_law_793 (lv_at hl 9 rfl) ?_
      refine lv_icmp_ge (tgt := 830) hx hb dL_law_795 (by decide) (fun c795 => ?_) (fun c795 => ?_)
      · skip
        have h795 : j ≤ i := (nI_leI (a := j) (b := i) (by omega) (by omega)).mp c795
        have e795 : i = j := by omega
        have hz9 := al_ne (by rw [← e795] at hj2; exact hj2)
        have hj3 : ¬ alI (itV v i) = 0 := by rw [e795]; exact hj2
        refine lv_iload hx hb dL_law_830 (lv_at hl 9 rfl) ?_
        refine lv_if_lt (tgt := 875) hx hb dL_law_832 (by decide) (fun c832 => ?_) (fun c832 => ?_)
        · exact absurd c832 (nI_pos (by omega))
        · skip
          refine lv_aload_n hx hb dL_law_835 rfl (lv_at hl 1 rfl) ?_
          refine fz_cVl X hW (fz_C.lf (c_X3_unlike l g f a b (itV v i) u1) r x) lk_L_57 (ci := 3) (q0 := 0) rfl rfl rfl rfl ⟨Nat.le_of_ble_eq_true rfl, Nat.le_of_ble_eq_true rfl⟩ hl rfl (Nat.le_of_ble_eq_true rfl) dL_law_836 (ce0 hcs) (fun H locs hW => ?_)
          refine lv_lconst (v := 0) hx hb dL_law_839 (by decide) ?_
          refine W.lcmp hx hb dL_law_840 ?_
          refine lv_if_ne (tgt := 875) hx hb dL_law_841 (by decide) (fun c841 => ?_) (fun c841 => ?_)
          · exact absurd (lg_same hz9.2) c841
          · skip
            refine lv_aload_n hx hb dL_law_844 rfl (lv_at hl 1 rfl) ?_
            refine fz_cVi X hW (fz_C.lf (c_X3_waiting l g f a b (itV v i) u1) r x) lk_L_75 (ci := 3) (q0 := 0) rfl rfl rfl rfl ⟨Nat.le_of_ble_eq_true rfl, Nat.le_of_ble_eq_true rfl⟩ hl rfl (Nat.le_of_ble_eq_true rfl) dL_law_845 (ce0 hcs) (fun H locs hW => ?_)
            refine lv_if_ne (tgt := 875) hx hb dL_law_848 (by decide) (fun c848 => ?_) (fun c848 => ?_)
            · exact absurd (congrArg nI hz9.1) c848
            · skip
              refine lv_aload_n hx hb dL_law_851 rfl (lv_at hl 1 rfl) ?_
              refine lv_iconst (v := 0) hx hb dL_law_852 (by decide) ?_
              refine fz_cVi X hW (fz_C.lf (k_X3_stepsToGo l g f a b (itV v i) u1 0 (inv_sok hii.1) ok_0) r x) lk_L_113 (ci := 3) (q0 := 0) rfl rfl rfl rfl ⟨Nat.le_of_ble_eq_true rfl, Nat.le_of_ble_eq_true rfl⟩ hl rfl (Nat.le_of_ble_eq_true rfl) dL_law_853 (ce0 hcs) (fun H locs hW => ?_)
              generalize (stgF 0 (coV u1 (itV v i)) 0 100).2 = u2 at hW
              refine lv_if_ne (tgt := 875) hx hb dL_law_856 (by decide) (fun c856 => ?_) (fun c856 => ?_)
              · exact absurd (stg_now u1 hri hii 0 hj3) c856
              · skip
                refine lv_aload_n hx hb dL_law_859 rfl (lv_at hl 1 rfl) ?_
                refine lv_iconst (v := 1) hx hb dL_law_860 (by decide) ?_
                refine lv_bipush (v := 8) hx hb dL_law_861 (by decide) ?_
                refine lv_iconst (v := 0) hx hb dL_law_863 (by decide) ?_
                refine fz_cH X Y hN hW (fz_CH.lf (h_near8 l hfl g f a b (itV v i) u2) r x) lh_71 rfl ⟨Nat.le_of_ble_eq_true rfl, Nat.le_of_ble_eq_true rfl⟩ hl rfl (Nat.le_of_ble_eq_true rfl) dL_law_864 (ce hcs (by omega) (by omega)) (fun H locs hW => ?_)
                refine lv_iconst (v := 1) hx hb dL_law_867 (by decide) ?_
                refine lv_icmp_ne (tgt := 875) hx hb dL_law_868 (by decide) (fun c868 => ?_) (fun c868 => ?_)
                · first | exact absurd c868 (by decide) | exact absurd (by decide) c868
                · skip
                  refine lv_iconst (v := 1) hx hb dL_law_871 (by decide) ?_
                  refine lv_goto (tgt := 876) hx hb dL_law_872 (by decide) ?_
                  refine W.widen (k := cells + 2) (n := slots + 12) (by omega) (by omega) ?_
                  exact kk _ _ _ _ _ _ hW
      · skip
        have h795 : i < j := Nat.not_le.mp (fun z => c795 ((nI_leI (a := j) (b := i) (by omega) (by omega)).mpr z))
        refine lv_aload_n hx hb dL_law_798 rfl (lv_at hl 1 rfl) ?_
        refine fz_cVl X hW (fz_C.lf (c_X3_unlike l g f a b (itV v i) u1) r x) lk_L_57 (ci := 3) (q0 := 0) rfl rfl rfl rfl ⟨Nat.le_of_ble_eq_true rfl, Nat.le_of_ble_eq_true rfl⟩ hl rfl (Nat.le_of_ble_eq_true rfl) dL_law_799 (ce0 hcs) (fun H locs hW => ?_)
        refine lv_lconst (v := 0) hx hb dL_law_802 (by decide) ?_
        refine W.lcmp hx hb dL_law_803 ?_
        have join816 : ∀ (u9 : Unit), ∀ (H : Heap) (locs : List Loc) (ls : Array Slot), fz_W g A s (LW g f a b (itV v i) u1 r x) H locs → lv_has ls 20 [(0, .ref b0), (1, .ref f), (2, .ref (r 0)), (3, .ref (r 1)), (4, .ref (r 2)), (5, .ref (r 3)), (6, .ref (r 4)), (7, .ref (r 5)), (8, .ref (r 6)), (9, .int (nI j)), (10, .int (nI i))] → W p l e room_1 s m args below meth c H locs cells slots Q (F0 m 816 ls []) := by
          intro u9 H locs ls hW hl
          refine lv_aload_n hx hb dL_law_816 rfl (lv_at hl 1 rfl) ?_
          refine lv_sipush (v := 300) hx hb dL_law_817 (by decide) ?_
          refine fz_cVi X hW (fz_C.lf (k_X3_step l g f a b (itV v i) u1 300 ok_300 hii.1.1 hii.1.2.1 (inv_sok hii.1).2.2) r x) lk_L_107 (ci := 3) (q0 := 0) rfl rfl rfl rfl ⟨Nat.le_of_ble_eq_true rfl, Nat.le_of_ble_eq_true rfl⟩ hl rfl (Nat.le_of_ble_eq_true rfl) dL_law_820 (ce0 hcs) (fun H locs hW => ?_)
          refine lv_pop hx hb dL_law_823 rfl ?_
          refine lv_iinc (v := nI (i + 1)) (lv' := [(10, .int (nI (i + 1))), (0, .ref b0), (1, .ref f), (2, .ref (r 0)), (3, .ref (r 1)), (4, .ref (r 2)), (5, .ref (r 3)), (6, .ref (r 4)), (7, .ref (r 5)), (8, .ref (r 6)), (9, .int (nI j))]) hx hb dL_law_824 hl (k := 10) rfl (nI_1 _) (by decide) rfl (fun ls hl => ?_)
          refine lv_goto (tgt := 791) hx hb dL_law_827 (by decide) ?_
          exact ih791 (i + 1) (by omega) (by omega) _ _ _ (fz_cast (congrArg (fun z => (LW g f a b z u1 r x : va_W)) (itV_s v i).symm) hW) (lv_sub hl [1, 2, 3, 4, 5, 6, 7, 8, 9, 10, 0] rfl)
        refine lv_if_ne (tgt := 816) hx hb dL_law_804 (by decide) (fun c804 => ?_) (fun c804 => ?_)
        · skip
          exact join816 () _ _ _ (fz_cast (rfl) hW) (lv_sub hl [0, 1, 2, 3, 4, 5, 6, 7, 8, 9, 10] rfl)
        · skip
          refine lv_aload_n hx hb dL_law_807 rfl (lv_at hl 1 rfl) ?_
          refine fz_cVi X hW (fz_C.lf (c_X3_waiting l g f a b (itV v i) u1) r x) lk_L_75 (ci := 3) (q0 := 0) rfl rfl rfl rfl ⟨Nat.le_of_ble_eq_true rfl, Nat.le_of_ble_eq_true rfl⟩ hl rfl (Nat.le_of_ble_eq_true rfl) dL_law_808 (ce0 hcs) (fun H locs hW => ?_)
          refine lv_if_ne (tgt := 816) hx hb dL_law_811 (by decide) (fun c811 => ?_) (fun c811 => ?_)
          · skip
            exact join816 () _ _ _ (fz_cast (rfl) hW) (lv_sub hl [0, 1, 2, 3, 4, 5, 6, 7, 8, 9, 10] rfl)
          · exact absurd ⟨(nI_eq (b := 0) (by have := hii.1.1; omega) (by omega)).mp c811, lg_zero c804⟩ ((alI_0 _).mp (hj1 i h795))
  exact loop791 (j + 1) 0 (by omega) (by omega) _ _ _ (fz_cast (rfl) hW) (lv_sub hl [2, 3, 4, 5, 6, 7, 8, 9, 10, 1, 0] rfl)
