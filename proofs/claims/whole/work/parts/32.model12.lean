def mka0 (m : MV) : MV := m.at_S 0
def mkb0 (m : MV) : MV := m.at_S 0
def mka1 (m : MV) : MV := kpV (mka0 m) (mka0 m).far 48
def mkb1 (m : MV) : MV := ((mkb0 m).farS (kbF (mkb0 m) (mkb0 m).far 48)).at_S ((mkb0 m).at_ + 48)
def mka2 (m : MV) : MV := kpV (mka1 m) (mka1 m).since 48
def mkb2 (m : MV) : MV := ((mkb1 m).sinceS (kbF (mkb1 m) (mkb1 m).since 48)).at_S ((mkb1 m).at_ + 48)
def mka3 (m : MV) : MV := kpV (mka2 m) (mka2 m).ch 48
def mkb3 (m : MV) : MV := ((mkb2 m).chS (kbF (mkb2 m) (mkb2 m).ch 48)).at_S ((mkb2 m).at_ + 48)
def mka4 (m : MV) : MV := kpV (mka3 m) (mka3 m).mF 4
def mkb4 (m : MV) : MV := ((mkb3 m).mFS (kbF (mkb3 m) (mkb3 m).mF 4)).at_S ((mkb3 m).at_ + 4)
def mka5 (m : MV) : MV := kpV (mka4 m) (mka4 m).mT 4
def mkb5 (m : MV) : MV := ((mkb4 m).mTS (kbF (mkb4 m) (mkb4 m).mT 4)).at_S ((mkb4 m).at_ + 4)
def mka6 (m : MV) : MV := kpV (mka5 m) (mka5 m).mW 4
def mkb6 (m : MV) : MV := ((mkb5 m).mWS (kbF (mkb5 m) (mkb5 m).mW 4)).at_S ((mkb5 m).at_ + 4)
def mka7 (m : MV) : MV := kpV (mka6 m) (mka6 m).mH 4
def mkb7 (m : MV) : MV := ((mkb6 m).mHS (kbF (mkb6 m) (mkb6 m).mH 4)).at_S ((mkb6 m).at_ + 4)
def mka8 (m : MV) : MV := kpV (mka7 m) (mka7 m).known 9
def mkb8 (m : MV) : MV := ((mkb7 m).knownS (kbF (mkb7 m) (mkb7 m).known 9)).at_S ((mkb7 m).at_ + 9)
def mka9 (m : MV) : MV := kpV (mka8 m) (mka8 m).sent 4
def mkb9 (m : MV) : MV := ((mkb8 m).sentS (kbF (mkb8 m) (mkb8 m).sent 4)).at_S ((mkb8 m).at_ + 4)
set_option maxHeartbeats 4000000 in
set_option maxRecDepth 100000 in
theorem c_X4_keepsAllF (l : Launch) (g : GG) (o : Nat → Nat) (m0 : MV) : fz_C l g yX4_keepsAll cX4_keepsAll 2 none 1 24 [.ref (o 0), .int 0] (MW g o m0) (MW g o (mka9 m0)) none := by
  refine fz_C.of (by decide) (Nat.le_of_ble_eq_true rfl) ?_
  intro p e s m args below meth c A ls X hW hl
  have hx := X.1
  have hb := X.2.1
  have hl : lv_has ls 2 [(0, .ref (o 0)), (1, .int 0)] := hl
  have X : fz_X p s m meth c RX4 cX4_keepsAll 2 none g A := X
  have hW : fz_W g A s (MW g o m0) s.heap [] := hW
  refine lv_aload_n hx hb dX4_keepsAll_0 rfl (lv_at hl 0 rfl) ?_
  refine lv_iconst (v := 0) hx hb dX4_keepsAll_1 (by decide) ?_
  refine pf_X4_130 X hW 0 rfl (Nat.le_of_ble_eq_true rfl) dX4_keepsAll_2 (fun H locs hW => ?_)
  have hW : fz_W g A s (MW g o (mka0 m0)) H locs := hW
  refine lv_aload_n hx hb dX4_keepsAll_5 rfl (lv_at hl 0 rfl) ?_
  refine lv_aload_n hx hb dX4_keepsAll_6 rfl (lv_at hl 0 rfl) ?_
  refine gf_X4_13 X hW 0 rfl rfl dX4_keepsAll_7 ?_
  refine lv_bipush (v := 48) hx hb dX4_keepsAll_10 (by decide) ?_
  refine lv_iload_n hx hb dX4_keepsAll_12 rfl (lv_at hl 1 rfl) ?_
  refine fz_cVv X hW (ck_farF l g o (mka0 m0) (Nat.le_of_ble_eq_true rfl)) lk_X4_133 (ci := 4) (q0 := 0) rfl rfl rfl rfl ⟨Nat.le_of_ble_eq_true rfl, Nat.le_of_ble_eq_true rfl⟩ hl rfl (Nat.le_of_ble_eq_true rfl) dX4_keepsAll_13 ⟨Nat.le_refl _, Nat.le_refl _⟩ (fun H locs hW => ?_)
  have hW : fz_W g A s (MW g o (mka1 m0)) H locs := hW
  refine lv_aload_n hx hb dX4_keepsAll_16 rfl (lv_at hl 0 rfl) ?_
  refine lv_aload_n hx hb dX4_keepsAll_17 rfl (lv_at hl 0 rfl) ?_
  refine gf_X4_16 X hW 0 rfl rfl dX4_keepsAll_18 ?_
  refine lv_bipush (v := 48) hx hb dX4_keepsAll_21 (by decide) ?_
  refine lv_iload_n hx hb dX4_keepsAll_23 rfl (lv_at hl 1 rfl) ?_
  refine fz_cVv X hW (ck_sinceF l g o (mka1 m0) (Nat.le_of_ble_eq_true rfl)) lk_X4_133 (ci := 4) (q0 := 0) rfl rfl rfl rfl ⟨Nat.le_of_ble_eq_true rfl, Nat.le_of_ble_eq_true rfl⟩ hl rfl (Nat.le_of_ble_eq_true rfl) dX4_keepsAll_24 ⟨Nat.le_refl _, Nat.le_refl _⟩ (fun H locs hW => ?_)
  have hW : fz_W g A s (MW g o (mka2 m0)) H locs := hW
  refine lv_aload_n hx hb dX4_keepsAll_27 rfl (lv_at hl 0 rfl) ?_
  refine lv_aload_n hx hb dX4_keepsAll_28 rfl (lv_at hl 0 rfl) ?_
  refine gf_X4_19 X hW 0 rfl rfl dX4_keepsAll_29 ?_
  refine lv_bipush (v := 48) hx hb dX4_keepsAll_32 (by decide) ?_
  refine lv_iload_n hx hb dX4_keepsAll_34 rfl (lv_at hl 1 rfl) ?_
  refine fz_cVv X hW (ck_chF l g o (mka2 m0) (Nat.le_of_ble_eq_true rfl)) lk_X4_133 (ci := 4) (q0 := 0) rfl rfl rfl rfl ⟨Nat.le_of_ble_eq_true rfl, Nat.le_of_ble_eq_true rfl⟩ hl rfl (Nat.le_of_ble_eq_true rfl) dX4_keepsAll_35 ⟨Nat.le_refl _, Nat.le_refl _⟩ (fun H locs hW => ?_)
  have hW : fz_W g A s (MW g o (mka3 m0)) H locs := hW
  refine lv_aload_n hx hb dX4_keepsAll_38 rfl (lv_at hl 0 rfl) ?_
  refine lv_aload_n hx hb dX4_keepsAll_39 rfl (lv_at hl 0 rfl) ?_
  refine gf_X4_22 X hW 0 rfl rfl dX4_keepsAll_40 ?_
  refine lv_iconst (v := 4) hx hb dX4_keepsAll_43 (by decide) ?_
  refine lv_iload_n hx hb dX4_keepsAll_44 rfl (lv_at hl 1 rfl) ?_
  refine fz_cVv X hW (ck_mFF l g o (mka3 m0) (Nat.le_of_ble_eq_true rfl)) lk_X4_133 (ci := 4) (q0 := 0) rfl rfl rfl rfl ⟨Nat.le_of_ble_eq_true rfl, Nat.le_of_ble_eq_true rfl⟩ hl rfl (Nat.le_of_ble_eq_true rfl) dX4_keepsAll_45 ⟨Nat.le_refl _, Nat.le_refl _⟩ (fun H locs hW => ?_)
  have hW : fz_W g A s (MW g o (mka4 m0)) H locs := hW
  refine lv_aload_n hx hb dX4_keepsAll_48 rfl (lv_at hl 0 rfl) ?_
  refine lv_aload_n hx hb dX4_keepsAll_49 rfl (lv_at hl 0 rfl) ?_
  refine gf_X4_25 X hW 0 rfl rfl dX4_keepsAll_50 ?_
  refine lv_iconst (v := 4) hx hb dX4_keepsAll_53 (by decide) ?_
  refine lv_iload_n hx hb dX4_keepsAll_54 rfl (lv_at hl 1 rfl) ?_
  refine fz_cVv X hW (ck_mTF l g o (mka4 m0) (Nat.le_of_ble_eq_true rfl)) lk_X4_133 (ci := 4) (q0 := 0) rfl rfl rfl rfl ⟨Nat.le_of_ble_eq_true rfl, Nat.le_of_ble_eq_true rfl⟩ hl rfl (Nat.le_of_ble_eq_true rfl) dX4_keepsAll_55 ⟨Nat.le_refl _, Nat.le_refl _⟩ (fun H locs hW => ?_)
  have hW : fz_W g A s (MW g o (mka5 m0)) H locs := hW
  refine lv_aload_n hx hb dX4_keepsAll_58 rfl (lv_at hl 0 rfl) ?_
  refine lv_aload_n hx hb dX4_keepsAll_59 rfl (lv_at hl 0 rfl) ?_
  refine gf_X4_28 X hW 0 rfl rfl dX4_keepsAll_60 ?_
  refine lv_iconst (v := 4) hx hb dX4_keepsAll_63 (by decide) ?_
  refine lv_iload_n hx hb dX4_keepsAll_64 rfl (lv_at hl 1 rfl) ?_
  refine fz_cVv X hW (ck_mWF l g o (mka5 m0) (Nat.le_of_ble_eq_true rfl)) lk_X4_133 (ci := 4) (q0 := 0) rfl rfl rfl rfl ⟨Nat.le_of_ble_eq_true rfl, Nat.le_of_ble_eq_true rfl⟩ hl rfl (Nat.le_of_ble_eq_true rfl) dX4_keepsAll_65 ⟨Nat.le_refl _, Nat.le_refl _⟩ (fun H locs hW => ?_)
  have hW : fz_W g A s (MW g o (mka6 m0)) H locs := hW
  refine lv_aload_n hx hb dX4_keepsAll_68 rfl (lv_at hl 0 rfl) ?_
  refine lv_aload_n hx hb dX4_keepsAll_69 rfl (lv_at hl 0 rfl) ?_
  refine gf_X4_31 X hW 0 rfl rfl dX4_keepsAll_70 ?_
  refine lv_iconst (v := 4) hx hb dX4_keepsAll_73 (by decide) ?_
  refine lv_iload_n hx hb dX4_keepsAll_74 rfl (lv_at hl 1 rfl) ?_
  refine fz_cVv X hW (ck_mHF l g o (mka6 m0) (Nat.le_of_ble_eq_true rfl)) lk_X4_133 (ci := 4) (q0 := 0) rfl rfl rfl rfl ⟨Nat.le_of_ble_eq_true rfl, Nat.le_of_ble_eq_true rfl⟩ hl rfl (Nat.le_of_ble_eq_true rfl) dX4_keepsAll_75 ⟨Nat.le_refl _, Nat.le_refl _⟩ (fun H locs hW => ?_)
  have hW : fz_W g A s (MW g o (mka7 m0)) H locs := hW
  refine lv_aload_n hx hb dX4_keepsAll_78 rfl (lv_at hl 0 rfl) ?_
  refine lv_aload_n hx hb dX4_keepsAll_79 rfl (lv_at hl 0 rfl) ?_
  refine gf_X4_34 X hW 0 rfl rfl dX4_keepsAll_80 ?_
  refine lv_bipush (v := 9) hx hb dX4_keepsAll_83 (by decide) ?_
  refine lv_iload_n hx hb dX4_keepsAll_85 rfl (lv_at hl 1 rfl) ?_
  refine fz_cVv X hW (ck_knownF l g o (mka7 m0) (Nat.le_of_ble_eq_true rfl)) lk_X4_133 (ci := 4) (q0 := 0) rfl rfl rfl rfl ⟨Nat.le_of_ble_eq_true rfl, Nat.le_of_ble_eq_true rfl⟩ hl rfl (Nat.le_of_ble_eq_true rfl) dX4_keepsAll_86 ⟨Nat.le_refl _, Nat.le_refl _⟩ (fun H locs hW => ?_)
  have hW : fz_W g A s (MW g o (mka8 m0)) H locs := hW
  refine lv_aload_n hx hb dX4_keepsAll_89 rfl (lv_at hl 0 rfl) ?_
  refine lv_aload_n hx hb dX4_keepsAll_90 rfl (lv_at hl 0 rfl) ?_
  refine gf_X4_37 X hW 0 rfl rfl dX4_keepsAll_91 ?_
  refine lv_iconst (v := 4) hx hb dX4_keepsAll_94 (by decide) ?_
  refine lv_iload_n hx hb dX4_keepsAll_95 rfl (lv_at hl 1 rfl) ?_
  refine fz_cVv X hW (ck_sentF l g o (mka8 m0) (Nat.le_of_ble_eq_true rfl)) lk_X4_133 (ci := 4) (q0 := 0) rfl rfl rfl rfl ⟨Nat.le_of_ble_eq_true rfl, Nat.le_of_ble_eq_true rfl⟩ hl rfl (Nat.le_of_ble_eq_true rfl) dX4_keepsAll_96 ⟨Nat.le_refl _, Nat.le_refl _⟩ (fun H locs hW => ?_)
  have hW : fz_W g A s (MW g o (mka9 m0)) H locs := hW
  exact fz_rv X (fz_cast (rfl) hW) dX4_keepsAll_99
set_option maxHeartbeats 4000000 in
set_option maxRecDepth 100000 in
theorem c_X4_keepsAllB (l : Launch) (g : GG) (o : Nat → Nat) (m0 : MV) : fz_C l g yX4_keepsAll cX4_keepsAll 2 none 1 24 [.ref (o 0), .int 1] (MW g o m0) (MW g o (mkb9 m0)) none := by
  refine fz_C.of (by decide) (Nat.le_of_ble_eq_true rfl) ?_
  intro p e s m args below meth c A ls X hW hl
  have hx := X.1
  have hb := X.2.1
  have hl : lv_has ls 2 [(0, .ref (o 0)), (1, .int 1)] := hl
  have X : fz_X p s m meth c RX4 cX4_keepsAll 2 none g A := X
  have hW : fz_W g A s (MW g o m0) s.heap [] := hW
  refine lv_aload_n hx hb dX4_keepsAll_0 rfl (lv_at hl 0 rfl) ?_
  refine lv_iconst (v := 0) hx hb dX4_keepsAll_1 (by decide) ?_
  refine pf_X4_130 X hW 0 rfl (Nat.le_of_ble_eq_true rfl) dX4_keepsAll_2 (fun H locs hW => ?_)
  have hW : fz_W g A s (MW g o (mkb0 m0)) H locs := hW
  refine lv_aload_n hx hb dX4_keepsAll_5 rfl (lv_at hl 0 rfl) ?_
  refine lv_aload_n hx hb dX4_keepsAll_6 rfl (lv_at hl 0 rfl) ?_
  refine gf_X4_13 X hW 0 rfl rfl dX4_keepsAll_7 ?_
  refine lv_bipush (v := 48) hx hb dX4_keepsAll_10 (by decide) ?_
  refine lv_iload_n hx hb dX4_keepsAll_12 rfl (lv_at hl 1 rfl) ?_
  refine fz_cVv X hW (ck_farB l g o (mkb0 m0) (Nat.le_of_ble_eq_true rfl)) lk_X4_133 (ci := 4) (q0 := 0) rfl rfl rfl rfl ⟨Nat.le_of_ble_eq_true rfl, Nat.le_of_ble_eq_true rfl⟩ hl rfl (Nat.le_of_ble_eq_true rfl) dX4_keepsAll_13 ⟨Nat.le_refl _, Nat.le_refl _⟩ (fun H locs hW => ?_)
  have hW : fz_W g A s (MW g o (mkb1 m0)) H locs := hW
  refine lv_aload_n hx hb dX4_keepsAll_16 rfl (lv_at hl 0 rfl) ?_
  refine lv_aload_n hx hb dX4_keepsAll_17 rfl (lv_at hl 0 rfl) ?_
  refine gf_X4_16 X hW 0 rfl rfl dX4_keepsAll_18 ?_
  refine lv_bipush (v := 48) hx hb dX4_keepsAll_21 (by decide) ?_
  refine lv_iload_n hx hb dX4_keepsAll_23 rfl (lv_at hl 1 rfl) ?_
  refine fz_cVv X hW (ck_sinceB l g o (mkb1 m0) (Nat.le_of_ble_eq_true rfl)) lk_X4_133 (ci := 4) (q0 := 0) rfl rfl rfl rfl ⟨Nat.le_of_ble_eq_true rfl, Nat.le_of_ble_eq_true rfl⟩ hl rfl (Nat.le_of_ble_eq_true rfl) dX4_keepsAll_24 ⟨Nat.le_refl _, Nat.le_refl _⟩ (fun H locs hW => ?_)
  have hW : fz_W g A s (MW g o (mkb2 m0)) H locs := hW
  refine lv_aload_n hx hb dX4_keepsAll_27 rfl (lv_at hl 0 rfl) ?_
  refine lv_aload_n hx hb dX4_keepsAll_28 rfl (lv_at hl 0 rfl) ?_
  refine gf_X4_19 X hW 0 rfl rfl dX4_keepsAll_29 ?_
  refine lv_bipush (v := 48) hx hb dX4_keepsAll_32 (by decide) ?_
  refine lv_iload_n hx hb dX4_keepsAll_34 rfl (lv_at hl 1 rfl) ?_
  refine fz_cVv X hW (ck_chB l g o (mkb2 m0) (Nat.le_of_ble_eq_true rfl)) lk_X4_133 (ci := 4) (q0 := 0) rfl rfl rfl rfl ⟨Nat.le_of_ble_eq_true rfl, Nat.le_of_ble_eq_true rfl⟩ hl rfl (Nat.le_of_ble_eq_true rfl) dX4_keepsAll_35 ⟨Nat.le_refl _, Nat.le_refl _⟩ (fun H locs hW => ?_)
  have hW : fz_W g A s (MW g o (mkb3 m0)) H locs := hW
  refine lv_aload_n hx hb dX4_keepsAll_38 rfl (lv_at hl 0 rfl) ?_
  refine lv_aload_n hx hb dX4_keepsAll_39 rfl (lv_at hl 0 rfl) ?_
  refine gf_X4_22 X hW 0 rfl rfl dX4_keepsAll_40 ?_
  refine lv_iconst (v := 4) hx hb dX4_keepsAll_43 (by decide) ?_
  refine lv_iload_n hx hb dX4_keepsAll_44 rfl (lv_at hl 1 rfl) ?_
  refine fz_cVv X hW (ck_mFB l g o (mkb3 m0) (Nat.le_of_ble_eq_true rfl)) lk_X4_133 (ci := 4) (q0 := 0) rfl rfl rfl rfl ⟨Nat.le_of_ble_eq_true rfl, Nat.le_of_ble_eq_true rfl⟩ hl rfl (Nat.le_of_ble_eq_true rfl) dX4_keepsAll_45 ⟨Nat.le_refl _, Nat.le_refl _⟩ (fun H locs hW => ?_)
  have hW : fz_W g A s (MW g o (mkb4 m0)) H locs := hW
  refine lv_aload_n hx hb dX4_keepsAll_48 rfl (lv_at hl 0 rfl) ?_
  refine lv_aload_n hx hb dX4_keepsAll_49 rfl (lv_at hl 0 rfl) ?_
  refine gf_X4_25 X hW 0 rfl rfl dX4_keepsAll_50 ?_
  refine lv_iconst (v := 4) hx hb dX4_keepsAll_53 (by decide) ?_
  refine lv_iload_n hx hb dX4_keepsAll_54 rfl (lv_at hl 1 rfl) ?_
  refine fz_cVv X hW (ck_mTB l g o (mkb4 m0) (Nat.le_of_ble_eq_true rfl)) lk_X4_133 (ci := 4) (q0 := 0) rfl rfl rfl rfl ⟨Nat.le_of_ble_eq_true rfl, Nat.le_of_ble_eq_true rfl⟩ hl rfl (Nat.le_of_ble_eq_true rfl) dX4_keepsAll_55 ⟨Nat.le_refl _, Nat.le_refl _⟩ (fun H locs hW => ?_)
  have hW : fz_W g A s (MW g o (mkb5 m0)) H locs := hW
  refine lv_aload_n hx hb dX4_keepsAll_58 rfl (lv_at hl 0 rfl) ?_
  refine lv_aload_n hx hb dX4_keepsAll_59 rfl (lv_at hl 0 rfl) ?_
  refine gf_X4_28 X hW 0 rfl rfl dX4_keepsAll_60 ?_
  refine lv_iconst (v := 4) hx hb dX4_keepsAll_63 (by decide) ?_
  refine lv_iload_n hx hb dX4_keepsAll_64 rfl (lv_at hl 1 rfl) ?_
  refine fz_cVv X hW (ck_mWB l g o (mkb5 m0) (Nat.le_of_ble_eq_true rfl)) lk_X4_133 (ci := 4) (q0 := 0) rfl rfl rfl rfl ⟨Nat.le_of_ble_eq_true rfl, Nat.le_of_ble_eq_true rfl⟩ hl rfl (Nat.le_of_ble_eq_true rfl) dX4_keepsAll_65 ⟨Nat.le_refl _, Nat.le_refl _⟩ (fun H locs hW => ?_)
  have hW : fz_W g A s (MW g o (mkb6 m0)) H locs := hW
  refine lv_aload_n hx hb dX4_keepsAll_68 rfl (lv_at hl 0 rfl) ?_
  refine lv_aload_n hx hb dX4_keepsAll_69 rfl (lv_at hl 0 rfl) ?_
  refine gf_X4_31 X hW 0 rfl rfl dX4_keepsAll_70 ?_
  refine lv_iconst (v := 4) hx hb dX4_keepsAll_73 (by decide) ?_
  refine lv_iload_n hx hb dX4_keepsAll_74 rfl (lv_at hl 1 rfl) ?_
  refine fz_cVv X hW (ck_mHB l g o (mkb6 m0) (Nat.le_of_ble_eq_true rfl)) lk_X4_133 (ci := 4) (q0 := 0) rfl rfl rfl rfl ⟨Nat.le_of_ble_eq_true rfl, Nat.le_of_ble_eq_true rfl⟩ hl rfl (Nat.le_of_ble_eq_true rfl) dX4_keepsAll_75 ⟨Nat.le_refl _, Nat.le_refl _⟩ (fun H locs hW => ?_)
  have hW : fz_W g A s (MW g o (mkb7 m0)) H locs := hW
  refine lv_aload_n hx hb dX4_keepsAll_78 rfl (lv_at hl 0 rfl) ?_
  refine lv_aload_n hx hb dX4_keepsAll_79 rfl (lv_at hl 0 rfl) ?_
  refine gf_X4_34 X hW 0 rfl rfl dX4_keepsAll_80 ?_
  refine lv_bipush (v := 9) hx hb dX4_keepsAll_83 (by decide) ?_
  refine lv_iload_n hx hb dX4_keepsAll_85 rfl (lv_at hl 1 rfl) ?_
  refine fz_cVv X hW (ck_knownB l g o (mkb7 m0) (Nat.le_of_ble_eq_true rfl)) lk_X4_133 (ci := 4) (q0 := 0) rfl rfl rfl rfl ⟨Nat.le_of_ble_eq_true rfl, Nat.le_of_ble_eq_true rfl⟩ hl rfl (Nat.le_of_ble_eq_true rfl) dX4_keepsAll_86 ⟨Nat.le_refl _, Nat.le_refl _⟩ (fun H locs hW => ?_)
  have hW : fz_W g A s (MW g o (mkb8 m0)) H locs := hW
  refine lv_aload_n hx hb dX4_keepsAll_89 rfl (lv_at hl 0 rfl) ?_
  refine lv_aload_n hx hb dX4_keepsAll_90 rfl (lv_at hl 0 rfl) ?_
  refine gf_X4_37 X hW 0 rfl rfl dX4_keepsAll_91 ?_
  refine lv_iconst (v := 4) hx hb dX4_keepsAll_94 (by decide) ?_
  refine lv_iload_n hx hb dX4_keepsAll_95 rfl (lv_at hl 1 rfl) ?_
  refine fz_cVv X hW (ck_sentB l g o (mkb8 m0) (Nat.le_of_ble_eq_true rfl)) lk_X4_133 (ci := 4) (q0 := 0) rfl rfl rfl rfl ⟨Nat.le_of_ble_eq_true rfl, Nat.le_of_ble_eq_true rfl⟩ hl rfl (Nat.le_of_ble_eq_true rfl) dX4_keepsAll_96 ⟨Nat.le_refl _, Nat.le_refl _⟩ (fun H locs hW => ?_)
  have hW : fz_W g A s (MW g o (mkb9 m0)) H locs := hW
  exact fz_rv X (fz_cast (rfl) hW) dX4_keepsAll_99
theorem MOKs_k {m : MV} (k : MOKs m) (f : Nat → Int32) (n : Nat) : MOKs (kpV m f n) := MOKs_eq k rfl rfl rfl rfl rfl k.2.1
theorem MOKs_a {m : MV} (k : MOKs m) : MOKs (mka9 (m.thrS 0)) := by
  have h0 : MOKs (mka0 (m.thrS 0)) := MOKs_eq (MOKs_0 k 0) rfl rfl rfl rfl rfl k.2.1
  have h1 : MOKs (mka1 (m.thrS 0)) := MOKs_k h0 _ _
  have h2 : MOKs (mka2 (m.thrS 0)) := MOKs_k h1 _ _
  have h3 : MOKs (mka3 (m.thrS 0)) := MOKs_k h2 _ _
  have h4 : MOKs (mka4 (m.thrS 0)) := MOKs_k h3 _ _
  have h5 : MOKs (mka5 (m.thrS 0)) := MOKs_k h4 _ _
  have h6 : MOKs (mka6 (m.thrS 0)) := MOKs_k h5 _ _
  have h7 : MOKs (mka7 (m.thrS 0)) := MOKs_k h6 _ _
  have h8 : MOKs (mka8 (m.thrS 0)) := MOKs_k h7 _ _
  have h9 : MOKs (mka9 (m.thrS 0)) := MOKs_k h8 _ _
  exact h9
def mgL (b : Int32) : Nat → Nat → MV → Nat × MV
  | 0, n, u => (n, u)
  | k + 1, n, u => if 100 < n then (n, u) else if u.moves = 0 ∧ muF u 48 ≤ 0 then (n, u) else mgL b k (n + 1) (mpV u b)
def mgZ (m : MV) (b : Int32) : Nat × MV := mgL b 102 0 (mka9 (m.thrS 0))
def mgB (m u : MV) : MV := mkb9 (((u.timeS m.time).movesS m.moves).picsS m.pics)
def mgR (m : MV) (b : Int32) : Int32 × MV := if okG b then (if (mgZ m b).1 ≤ 100 then nI (mgZ m b).1 else -1, mgB m (mgZ m b).2) else (0, m.thrS 1)
set_option maxHeartbeats 4000000 in
set_option maxRecDepth 100000 in
theorem c_X4_stepsToGo (l : Launch) (g : GG) (o : Nat → Nat) (m0 : MV) (x : Int32) (hok : MOKs m0) : fz_C l g yX4_stepsToGo cX4_stepsToGo 6 (some .int) 3 73 [.ref (o 0), .int x] (MW g o m0) (MW g o (mgR m0 x).2) (some (.int (mgR m0 x).1)) := by
  refine fz_C.of (by decide) (Nat.le_of_ble_eq_true rfl) ?_
  intro p e s m args below meth c A ls X hW hl
  have hx := X.1
  have hb := X.2.1
  have hl : lv_has ls 6 [(0, .ref (o 0)), (1, .int x)] := hl
  have X : fz_X p s m meth c RX4 cX4_stepsToGo 6 (some .int) g A := X
  have hW : fz_W g A s (MW g o m0) s.heap [] := hW
  refine lv_aload_n hx hb dX4_stepsToGo_0 rfl (lv_at hl 0 rfl) ?_
  refine lv_iload_n hx hb dX4_stepsToGo_1 rfl (lv_at hl 1 rfl) ?_
  refine lv_iconst (v := 0) hx hb dX4_stepsToGo_2 (by decide) ?_
  refine lv_sipush (v := 300) hx hb dX4_stepsToGo_3 (by decide) ?_
  refine fz_cSi X hW (c_X4_isIn l g x 0 300 _) lk_X4_57 rfl ⟨Nat.le_of_ble_eq_true rfl, Nat.le_of_ble_eq_true rfl⟩ hl rfl (Nat.le_of_ble_eq_true rfl) dX4_stepsToGo_6 ⟨Nat.le_refl _, Nat.le_refl _⟩ (fun H locs hW => ?_)
  refine lv_if_eq (tgt := 16) hx hb dX4_stepsToGo_9 (by decide) (fun c9 => ?_) (fun c9 => ?_)
  · skip
    have kg : ¬ okG x := fun z => b01_0.mp c9 (okG_in.mp z)
    refine lv_iconst (v := 1) hx hb dX4_stepsToGo_16 (by decide) ?_
    refine pf_X4_53 X hW 0 rfl (Nat.le_of_ble_eq_true rfl) dX4_stepsToGo_17 (fun H locs hW => ?_)
    refine lv_aload_n hx hb dX4_stepsToGo_20 rfl (lv_at hl 0 rfl) ?_
    refine gf_X4_53 X hW 0 rfl rfl dX4_stepsToGo_21 ?_
    refine lv_if_le (tgt := 29) hx hb dX4_stepsToGo_24 (by decide) (fun c24 => ?_) (fun c24 => ?_)
    · first | exact absurd c24 (by decide) | exact absurd (by decide) c24
    · skip
      refine lv_iconst (v := 0) hx hb dX4_stepsToGo_27 (by decide) ?_
      exact fz_ri X (fz_cast (by unfold mgR; rw [if_neg kg] <;> rfl) hW) (by unfold mgR; rw [if_neg kg]) dX4_stepsToGo_28
  · skip
    have kg : okG x := okG_in.mpr (b01_1 c9)
    refine lv_iconst (v := 0) hx hb dX4_stepsToGo_12 (by decide) ?_
    refine lv_goto (tgt := 17) hx hb dX4_stepsToGo_13 (by decide) ?_
    refine pf_X4_53 X hW 0 rfl (Nat.le_of_ble_eq_true rfl) dX4_stepsToGo_17 (fun H locs hW => ?_)
    refine lv_aload_n hx hb dX4_stepsToGo_20 rfl (lv_at hl 0 rfl) ?_
    refine gf_X4_53 X hW 0 rfl rfl dX4_stepsToGo_21 ?_
    refine lv_if_le (tgt := 29) hx hb dX4_stepsToGo_24 (by decide) (fun c24 => ?_) (fun c24 => ?_)
    · skip
      refine lv_aload_n hx hb dX4_stepsToGo_29 rfl (lv_at hl 0 rfl) ?_
      refine gf_X4_65 X hW 0 rfl rfl dX4_stepsToGo_30 ?_
      refine lv_istore_n (lv' := [(2, .int m0.time), (0, .ref (o 0)), (1, .int x)]) hx hb dX4_stepsToGo_33 rfl hl (by decide) rfl (fun ls hl => ?_)
      refine lv_aload_n hx hb dX4_stepsToGo_34 rfl (lv_at hl 1 rfl) ?_
      refine gf_X4_88 X hW 0 rfl rfl dX4_stepsToGo_35 ?_
      refine lv_istore_n (lv' := [(3, .int (nI m0.moves)), (2, .int m0.time), (0, .ref (o 0)), (1, .int x)]) hx hb dX4_stepsToGo_38 rfl hl (by decide) rfl (fun ls hl => ?_)
      refine lv_aload_n hx hb dX4_stepsToGo_39 rfl (lv_at hl 2 rfl) ?_
      refine gf_X4_94 X hW 0 rfl rfl dX4_stepsToGo_40 ?_
      refine lv_istore (lv' := [(4, .int (nI m0.pics)), (3, .int (nI m0.moves)), (2, .int m0.time), (0, .ref (o 0)), (1, .int x)]) hx hb dX4_stepsToGo_43 hl (by decide) rfl (fun ls hl => ?_)
      refine lv_aload_n hx hb dX4_stepsToGo_45 rfl (lv_at hl 3 rfl) ?_
      refine lv_iconst (v := 0) hx hb dX4_stepsToGo_46 (by decide) ?_
      refine fz_cVv X hW (c_X4_keepsAllF l g o (m0.thrS 0)) lk_X4_137 (ci := 4) (q0 := 0) rfl rfl rfl rfl ⟨Nat.le_of_ble_eq_true rfl, Nat.le_of_ble_eq_true rfl⟩ hl rfl (Nat.le_of_ble_eq_true rfl) dX4_stepsToGo_47 ⟨Nat.le_refl _, Nat.le_refl _⟩ (fun H locs hW => ?_)
      refine lv_iconst (v := 0) hx hb dX4_stepsToGo_50 (by decide) ?_
      refine lv_istore (lv' := [(5, .int 0), (4, .int (nI m0.pics)), (3, .int (nI m0.moves)), (2, .int m0.time), (0, .ref (o 0)), (1, .int x)]) hx hb dX4_stepsToGo_51 hl (by decide) rfl (fun ls hl => ?_)
      have loop53 : ∀ (k : Nat) (n : Nat) (u : MV), n ≤ 101 → 101 < n + k → mgZ m0 x = mgL x k n u → MOKs u → ∀ (H : Heap) (locs : List Loc) (ls : Array Slot), fz_W g A s (MW g o u) H locs → lv_has ls 6 [(0, .ref (o 0)), (1, .int x), (2, .int m0.time), (3, .int (nI m0.moves)), (4, .int (nI m0.pics)), (5, .int (nI n))] → W p l e (fz_R 3 0 0 73) s m args below meth c H locs 0 0 (MQ below (fz_Q g (MW g o (mgR m0 x).2) (some (.int (mgR m0 x).1)) A) args s 0 0 A) (F0 m 53 ls []) := by
        intro k
        induction k with
        | zero =>
          intro n u hn hk
          omega
        | succ k ih53 =>
          intro n u hn hk he hok2 H locs ls hW hl
          refine lv_iload hx hb dX4_stepsToGo_53 (lv_at hl 5 rfl) ?_
          refine lv_bipush (v := 100) hx hb dX4_stepsToGo_55 (by decide) ?_
          refine lv_icmp_gt (tgt := 86) hx hb dX4_stepsToGo_57 (by decide) (fun c57 => ?_) (fun c57 => ?_)
          · skip
            have h57 : 100 < n := (nI_ltI (a := 100) (b := n) (by omega) (by omega)).mp c57
            have hz : mgZ m0 x = (n, u) := he.trans (if_pos h57)
            refine lv_aload_n hx hb dX4_stepsToGo_86 rfl (lv_at hl 0 rfl) ?_
            refine lv_iload_n hx hb dX4_stepsToGo_87 rfl (lv_at hl 2 rfl) ?_
            refine pf_X4_65 X hW 0 rfl (Nat.le_of_ble_eq_true rfl) dX4_stepsToGo_88 (fun H locs hW => ?_)
            refine lv_aload_n hx hb dX4_stepsToGo_91 rfl (lv_at hl 0 rfl) ?_
            refine lv_iload_n hx hb dX4_stepsToGo_92 rfl (lv_at hl 3 rfl) ?_
            refine pf_X4_88 X hW 0 rfl (Nat.le_of_ble_eq_true rfl) dX4_stepsToGo_93 (fun H locs hW => ?_)
            refine lv_aload_n hx hb dX4_stepsToGo_96 rfl (lv_at hl 0 rfl) ?_
            refine lv_iload hx hb dX4_stepsToGo_97 (lv_at hl 4 rfl) ?_
            refine pf_X4_94 X hW 0 rfl (Nat.le_of_ble_eq_true rfl) dX4_stepsToGo_99 (fun H locs hW => ?_)
            refine lv_aload_n hx hb dX4_stepsToGo_102 rfl (lv_at hl 0 rfl) ?_
            refine lv_iconst (v := 1) hx hb dX4_stepsToGo_103 (by decide) ?_
            refine fz_cVv X hW (c_X4_keepsAllB l g o (((u.timeS m0.time).movesS m0.moves).picsS m0.pics)) lk_X4_137 (ci := 4) (q0 := 0) rfl rfl rfl rfl ⟨Nat.le_of_ble_eq_true rfl, Nat.le_of_ble_eq_true rfl⟩ hl rfl (Nat.le_of_ble_eq_true rfl) dX4_stepsToGo_104 ⟨Nat.le_refl _, Nat.le_refl _⟩ (fun H locs hW => ?_)
            refine lv_iload hx hb dX4_stepsToGo_107 (lv_at hl 5 rfl) ?_
            refine lv_bipush (v := 100) hx hb dX4_stepsToGo_109 (by decide) ?_
            refine lv_icmp_le (tgt := 118) hx hb dX4_stepsToGo_111 (by decide) (fun c111 => ?_) (fun c111 => ?_)
            · skip
              have h111 : n ≤ 100 := (nI_leI (a := n) (b := 100) (by omega) (by omega)).mp c111
              refine lv_iload hx hb dX4_stepsToGo_118 (lv_at hl 5 rfl) ?_
              exact fz_ri X (fz_cast (by unfold mgR; rw [if_pos kg, hz] <;> rfl) hW) (by unfold mgR; rw [if_pos kg, hz]; exact (if_pos h111).symm) dX4_stepsToGo_120
            · skip
              have h111 : ¬ n ≤ 100 := fun z => c111 ((nI_leI (a := n) (b := 100) (by omega) (by omega)).mpr z)
              refine lv_iconst (v := (-1)) hx hb dX4_stepsToGo_114 (by decide) ?_
              refine lv_goto (tgt := 120) hx hb dX4_stepsToGo_115 (by decide) ?_
              exact fz_ri X (fz_cast (by unfold mgR; rw [if_pos kg, hz] <;> rfl) hW) (by unfold mgR; rw [if_pos kg, hz]; exact (if_neg h111).symm) dX4_stepsToGo_120
          · skip
            have h57 : n ≤ 100 := Nat.not_lt.mp (fun z => c57 ((nI_ltI (a := 100) (b := n) (by omega) (by omega)).mpr z))
            refine lv_aload_n hx hb dX4_stepsToGo_60 rfl (lv_at hl 0 rfl) ?_
            refine gf_X4_88 X hW 0 rfl rfl dX4_stepsToGo_61 ?_
            refine lv_if_gt (tgt := 74) hx hb dX4_stepsToGo_64 (by decide) (fun c64 => ?_) (fun c64 => ?_)
            · skip
              have h64 : ¬ u.moves = 0 := fun z => by
                rw [z] at c64
                exact absurd c64 (by decide)
              refine lv_aload_n hx hb dX4_stepsToGo_74 rfl (lv_at hl 0 rfl) ?_
              refine lv_iload_n hx hb dX4_stepsToGo_75 rfl (lv_at hl 1 rfl) ?_
              refine fz_cVi X hW (c_X4_passes l g o u x hok2) lk_X4_121 (ci := 4) (q0 := 0) rfl rfl rfl rfl ⟨Nat.le_of_ble_eq_true rfl, Nat.le_of_ble_eq_true rfl⟩ hl rfl (Nat.le_of_ble_eq_true rfl) dX4_stepsToGo_76 ⟨Nat.le_refl _, Nat.le_refl _⟩ (fun H locs hW => ?_)
              refine lv_pop hx hb dX4_stepsToGo_79 rfl ?_
              refine lv_iinc (v := nI (n + 1)) (lv' := [(5, .int (nI (n + 1))), (0, .ref (o 0)), (1, .int x), (2, .int m0.time), (3, .int (nI m0.moves)), (4, .int (nI m0.pics))]) hx hb dX4_stepsToGo_80 hl (k := 5) rfl (nI_1 _) (by decide) rfl (fun ls hl => ?_)
              refine lv_goto (tgt := 53) hx hb dX4_stepsToGo_83 (by decide) ?_
              exact ih53 (n + 1) (mpV u x) (by omega) (by omega) (by rw [he]; exact (if_neg (Nat.not_lt.mpr h57)).trans (if_neg (fun q => h64 q.1))) (MOKs_p hok2 x) _ _ _ (fz_cast (rfl) hW) (lv_sub hl [1, 2, 3, 4, 5, 0] rfl)
            · skip
              have h64 : u.moves = 0 := by
                have k1 := hok2.1
                have := Nat.not_lt.mp (fun z => c64 ((nI_ltI (a := 0) (b := u.moves) (by omega) (by omega)).mpr z))
                omega
              refine lv_aload_n hx hb dX4_stepsToGo_67 rfl (lv_at hl 0 rfl) ?_
              refine fz_cVi X hW (c_X4_unlikeTiles l g o u) lk_X4_80 (ci := 4) (q0 := 0) rfl rfl rfl rfl ⟨Nat.le_of_ble_eq_true rfl, Nat.le_of_ble_eq_true rfl⟩ hl rfl (Nat.le_of_ble_eq_true rfl) dX4_stepsToGo_68 ⟨Nat.le_refl _, Nat.le_refl _⟩ (fun H locs hW => ?_)
              refine lv_if_le (tgt := 86) hx hb dX4_stepsToGo_71 (by decide) (fun c71 => ?_) (fun c71 => ?_)
              · skip
                have hz : mgZ m0 x = (n, u) := he.trans ((if_neg (Nat.not_lt.mpr h57)).trans (if_pos ⟨h64, c71⟩))
                refine lv_aload_n hx hb dX4_stepsToGo_86 rfl (lv_at hl 0 rfl) ?_
                refine lv_iload_n hx hb dX4_stepsToGo_87 rfl (lv_at hl 2 rfl) ?_
                refine pf_X4_65 X hW 0 rfl (Nat.le_of_ble_eq_true rfl) dX4_stepsToGo_88 (fun H locs hW => ?_)
                refine lv_aload_n hx hb dX4_stepsToGo_91 rfl (lv_at hl 0 rfl) ?_
                refine lv_iload_n hx hb dX4_stepsToGo_92 rfl (lv_at hl 3 rfl) ?_
                refine pf_X4_88 X hW 0 rfl (Nat.le_of_ble_eq_true rfl) dX4_stepsToGo_93 (fun H locs hW => ?_)
                refine lv_aload_n hx hb dX4_stepsToGo_96 rfl (lv_at hl 0 rfl) ?_
                refine lv_iload hx hb dX4_stepsToGo_97 (lv_at hl 4 rfl) ?_
                refine pf_X4_94 X hW 0 rfl (Nat.le_of_ble_eq_true rfl) dX4_stepsToGo_99 (fun H locs hW => ?_)
                refine lv_aload_n hx hb dX4_stepsToGo_102 rfl (lv_at hl 0 rfl) ?_
                refine lv_iconst (v := 1) hx hb dX4_stepsToGo_103 (by decide) ?_
                refine fz_cVv X hW (c_X4_keepsAllB l g o (((u.timeS m0.time).movesS m0.moves).picsS m0.pics)) lk_X4_137 (ci := 4) (q0 := 0) rfl rfl rfl rfl ⟨Nat.le_of_ble_eq_true rfl, Nat.le_of_ble_eq_true rfl⟩ hl rfl (Nat.le_of_ble_eq_true rfl) dX4_stepsToGo_104 ⟨Nat.le_refl _, Nat.le_refl _⟩ (fun H locs hW => ?_)
                refine lv_iload hx hb dX4_stepsToGo_107 (lv_at hl 5 rfl) ?_
                refine lv_bipush (v := 100) hx hb dX4_stepsToGo_109 (by decide) ?_
                refine lv_icmp_le (tgt := 118) hx hb dX4_stepsToGo_111 (by decide) (fun c111 => ?_) (fun c111 => ?_)
                · skip
                  have h111 : n ≤ 100 := (nI_leI (a := n) (b := 100) (by omega) (by omega)).mp c111
                  refine lv_iload hx hb dX4_stepsToGo_118 (lv_at hl 5 rfl) ?_
                  exact fz_ri X (fz_cast (by unfold mgR; rw [if_pos kg, hz] <;> rfl) hW) (by unfold mgR; rw [if_pos kg, hz]; exact (if_pos h111).symm) dX4_stepsToGo_120
                · skip
                  have h111 : ¬ n ≤ 100 := fun z => c111 ((nI_leI (a := n) (b := 100) (by omega) (by omega)).mpr z)
                  refine lv_iconst (v := (-1)) hx hb dX4_stepsToGo_114 (by decide) ?_
                  refine lv_goto (tgt := 120) hx hb dX4_stepsToGo_115 (by decide) ?_
                  exact fz_ri X (fz_cast (by unfold mgR; rw [if_pos kg, hz] <;> rfl) hW) (by unfold mgR; rw [if_pos kg, hz]; exact (if_neg h111).symm) dX4_stepsToGo_120
              · skip
                refine lv_aload_n hx hb dX4_stepsToGo_74 rfl (lv_at hl 0 rfl) ?_
                refine lv_iload_n hx hb dX4_stepsToGo_75 rfl (lv_at hl 1 rfl) ?_
                refine fz_cVi X hW (c_X4_passes l g o u x hok2) lk_X4_121 (ci := 4) (q0 := 0) rfl rfl rfl rfl ⟨Nat.le_of_ble_eq_true rfl, Nat.le_of_ble_eq_true rfl⟩ hl rfl (Nat.le_of_ble_eq_true rfl) dX4_stepsToGo_76 ⟨Nat.le_refl _, Nat.le_refl _⟩ (fun H locs hW => ?_)
                refine lv_pop hx hb dX4_stepsToGo_79 rfl ?_
                refine lv_iinc (v := nI (n + 1)) (lv' := [(5, .int (nI (n + 1))), (0, .ref (o 0)), (1, .int x), (2, .int m0.time), (3, .int (nI m0.moves)), (4, .int (nI m0.pics))]) hx hb dX4_stepsToGo_80 hl (k := 5) rfl (nI_1 _) (by decide) rfl (fun ls hl => ?_)
                refine lv_goto (tgt := 53) hx hb dX4_stepsToGo_83 (by decide) ?_
                exact ih53 (n + 1) (mpV u x) (by omega) (by omega) (by rw [he]; exact (if_neg (Nat.not_lt.mpr h57)).trans (if_neg (fun q => c71 q.2))) (MOKs_p hok2 x) _ _ _ (fz_cast (rfl) hW) (lv_sub hl [1, 2, 3, 4, 5, 0] rfl)
      exact loop53 102 0 (mka9 (m0.thrS 0)) (by omega) (by omega) rfl (MOKs_a hok) _ _ _ (fz_cast (rfl) hW) (lv_sub hl [4, 5, 3, 2, 1, 0] rfl)
    · first | exact absurd c24 (by decide) | exact absurd (by decide) c24
