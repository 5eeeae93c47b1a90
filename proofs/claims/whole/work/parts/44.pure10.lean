/-! answers alike; the end of a step -/
theorem muL_cong {f g : Nat → Int32} : ∀ t, (∀ j, j < t → f j = g j) → muL f t = muL g t := by
  intro t
  induction t with
  | zero => intro _; rfl
  | succ t ih =>
    intro h
    show (if f t = -1 then muL f t else muL f t ||| (1 <<< ((nI t).toInt64 &&& 63))) = (if g t = -1 then muL g t else muL g t ||| (1 <<< ((nI t).toInt64 &&& 63)))
    rw [h t (by omega), ih (fun j hj => h j (by omega))]
theorem mcR_cong {f g : Nat → Int32} : ∀ t, (∀ j, j < t → f j = g j) → mcR f t = mcR g t := by
  intro t
  induction t with
  | zero => intro _; rfl
  | succ t ih =>
    intro h
    show (if f t < 1000 then mcR f t else mcR f t + 1) = (if g t < 1000 then mcR g t else mcR g t + 1)
    rw [h t (by omega), ih (fun j hj => h j (by omega))]
theorem manF_cong {f g : Nat → Int32} : ∀ t, (∀ j, j < t → f j = g j) → manF f t = manF g t := by
  intro t
  induction t with
  | zero => intro _; rfl
  | succ t ih =>
    intro h
    show manF f t + wcI (f t) = manF g t + wcI (g t)
    rw [h t (by omega), ih (fun j hj => h j (by omega))]
theorem alk_unlike {v : SV} {m : MV} (h : Alk v m) : usF v 48 = muL m.since 48 := (us_mu v 48).trans (muL_cong 48 h.2.2.1)
theorem alk_rough {v : SV} {m : MV} (h : Alk v m) : crF v 48 = mcR m.far 48 := (cr_mc v 48).trans (mcR_cong 48 h.2.1)
theorem alk_anew {v : SV} {m : MV} (h : Alk v m) : anF v 48 = manF m.near 48 := (an_man v 48).trans (manF_cong 48 h.1)
theorem alk_count {v : SV} {m : MV} (h : Alk v m) : bcL (usF v 48) = muF m 48 := by
  rw [alk_unlike h, mu_bq _ 48 (Nat.le_refl _), bcL_bq, mu_bn]
set_option maxRecDepth 100000 in
theorem sh_all : ∀ k : Fin 256, (nI k.val) <<< ((1 : Int32) &&& 31) &&& 255 = nI (2 * k.val % 256) := by decide +kernel
theorem alk_sc {v : SV} {m : MV} (h : Alk v m) (c : Int32) : Alk (scV (unV v c)) ((mzV m 48).usedS (m.used + c)) := by
  obtain ⟨h1, h2, h3, h4, h5, h6, h7, h8, h9, h10, h11, h12, h13, h14, h15, h16⟩ := h
  refine ⟨h1, h2, h3, fun t ht => ?_, fun t ht => ?_, h6, h7, h8, h9, h10, h11, h12, ?_, ?_, h15, h16⟩
  · show fz_to (fun t => v.ch t <<< ((1 : Int32) &&& 31) &&& 255) v.ch 48 t = fz_to (fun t => m.ch t <<< ((1 : Int32) &&& 31) &&& 255) m.ch 48 t
    rw [fz_to_lt ht, fz_to_lt ht, h4 t ht]
  · obtain ⟨k, hk, e⟩ := h5 t ht
    refine ⟨2 * k % 256, Nat.mod_lt _ (by omega), ?_⟩
    show fz_to (fun t => m.ch t <<< ((1 : Int32) &&& 31) &&& 255) m.ch 48 t = _
    rw [fz_to_lt ht, e]
    exact sh_all ⟨k, hk⟩
  · show v.us + c = m.used + c
    rw [h13]
  · show v.now + 1 = m.time + 1
    rw [h14]
