/-! drawing, on both sides -/
theorem rel_fill {v : SV} {y : Int32} {x : LV} {T a b w h : Nat} {q : Int32} (hr : Rel v y x) (hi : Inv v T) (h1 : 1 ≤ w) (hw : a + w ≤ 8) : Rel (paV v a b w h q) y (dfl x a b w q (w * h)) := by
  obtain ⟨r1, r2, r3, r4, r5, r6, r7, r8, r9, r10, r11, r12⟩ := id hr
  obtain ⟨k1, k2, k3, k4⟩ := dfl_keep x a b w q (w * h)
  have Pp := paR_at q a b w v.near hw h
  have Q : ∀ t, (inb a b w h t → (dfl x a b w q (w * h)).n t = q ∧ (dfl x a b w q (w * h)).h t = (if x.n t = q then x.h t else x.h t ||| 1) ∧ (dfl x a b w q (w * h)).u t = luF x t q) ∧ (¬ inb a b w h t → (dfl x a b w q (w * h)).n t = x.n t ∧ (dfl x a b w q (w * h)).h t = x.h t ∧ (dfl x a b w q (w * h)).u t = x.u t) := fun t => by
    have k := dfl_at x (b := b) q h1 hw (w * h) t
    rw [vis_inb h1] at k
    exact k
  refine ⟨fun t ht => ?_, fun t ht => ?_, fun t ht => ?_, fun t ht => ?_, by rw [k2]; exact r5, by rw [k3]; exact r6, by rw [k3]; exact r7, by rw [k4]; exact r8, by rw [k4]; exact r9, by rw [k4]; exact r10, by rw [k4]; exact r11, by rw [k4]; exact r12⟩
  · show _ = paR q a b w v.near h t
    by_cases z : inb a b w h t
    · rw [(Pp t).1 z, ((Q t).1 z).1]
    · rw [(Pp t).2 z, ((Q t).2 z).1, r1 t ht]
  · rw [k1]; exact r2 t ht
  · have e : (paV v a b w h q).since t = if paR q a b w v.near h t = v.far t then -1 else if v.since t = -1 then v.now else v.since t := nu_at _ ht
    rw [e]
    by_cases z : inb a b w h t
    · rw [(Pp t).1 z, ((Q t).1 z).2.2]
      exact lu_is hr hi.1 ht q
    · rw [(Pp t).2 z, ((Q t).2 z).2.2, r3 t ht]
      have k := hi.2 t ht
      by_cases c : v.near t = v.far t
      · rw [if_pos c]; exact k.mpr c
      · rw [if_neg c, if_neg (fun z => c (k.mp z))]
  · have e : (paV v a b w h q).ch t = if paR q a b w v.near h t = fz_to v.near v.before 48 t then v.ch t else v.ch t ||| 1 := nc_at _ ht
    rw [e, fz_to_lt ht]
    by_cases z : inb a b w h t
    · rw [(Pp t).1 z, ((Q t).1 z).2.1, r1 t ht, r4 t ht]
      by_cases c : v.near t = q
      · rw [if_pos c, if_pos c.symm]
      · rw [if_neg c, if_neg (fun z => c z.symm)]
    · rw [(Pp t).2 z, ((Q t).2 z).2.1, r4 t ht, if_pos rfl]
theorem inv_fill {v : SV} {T a b w h k : Nat} {q : Int32} (hi : Inv v T) (hw : a + w ≤ 8) (hk : k < 256) (hq : q = nI k) : Inv (paV v a b w h q) T := by
  refine inv_nu (inw_nc ?_)
  obtain ⟨h1, h2, h3, h4, h5, h6, h7, h8, h9, hT⟩ := hi.1
  refine ⟨h1, h2, h3, h4, fun t ht => ?_, h6, h7, h8, h9, hT⟩
  obtain ⟨p1, p2⟩ := paR_at q a b w v.near hw h t
  show ∃ k, k < 256 ∧ paR q a b w v.near h t = nI k
  by_cases z : inb a b w h t
  · exact ⟨k, hk, by rw [p1 z, hq]⟩
  · rw [p2 z]; exact h5 t ht
/-- how many tiles are unlike, as the law counts them -/
def cnL (u : Nat → Int32) : Nat → Int32
  | 0 => 0
  | t + 1 => cnL u t + (if 0 ≤ u t then 1 else 0)
theorem cnL_bn {u s : Nat → Int32} : ∀ t, (∀ i, i < t → (0 ≤ u i ↔ ¬ s i = -1)) → cnL u t = nI (bnF s t) := by
  intro t
  induction t with
  | zero => intro _; rfl
  | succ t ih =>
    intro h
    show cnL u t + (if 0 ≤ u t then 1 else 0) = nI (bnF s t + (if s t = -1 then 0 else 1))
    rw [ih (fun i hi => h i (by omega))]
    have k := h t (by omega)
    by_cases b : s t = -1
    · rw [if_pos b, if_neg (fun z => (k.mp z) b)]
      exact Int32.add_zero _
    · rw [if_neg b, if_pos (k.mpr b)]
      exact nI_1 _
theorem cn_unlike {v : SV} {y : Int32} {x : LV} {T : Nat} (hr : Rel v y x) (hi : Inw v T) : cnL x.u 48 = bcL (usF v 48) := by
  rw [us_mu, mu_bq _ 48 (Nat.le_refl _), bcL_bq]
  refine cnL_bn 48 (fun i h => ?_)
  rw [hr.2.2.1 i h]
  exact inv_ge hi h
/-- a move, written into the row of moves -/
def w6 (w : Nat → Int32) (b : Nat) (m : Nat → Nat) : Nat → Int32 := upd (upd (upd (upd (upd (upd w b (nI (m 0))) (b + 1) (nI (m 1))) (b + 2) (nI (m 2))) (b + 3) (nI (m 3))) (b + 4) (nI (m 4))) (b + 5) (nI (m 5))
theorem w6_in (w : Nat → Int32) (b : Nat) (m : Nat → Nat) : ∀ i, i < 6 → w6 w b m (b + i) = nI (m i) := by
  intro i hi
  unfold w6
  rcases (show i = 0 ∨ i = 1 ∨ i = 2 ∨ i = 3 ∨ i = 4 ∨ i = 5 by omega) with rfl | rfl | rfl | rfl | rfl | rfl
  · rw [pk_un (by omega), pk_un (by omega), pk_un (by omega), pk_un (by omega), pk_un (by omega), Nat.add_zero, pk_us]
  · rw [pk_un (by omega), pk_un (by omega), pk_un (by omega), pk_un (by omega), pk_us]
  · rw [pk_un (by omega), pk_un (by omega), pk_un (by omega), pk_us]
  · rw [pk_un (by omega), pk_un (by omega), pk_us]
  · rw [pk_un (by omega), pk_us]
  · rw [pk_us]
theorem w6_out (w : Nat → Int32) (b : Nat) (m : Nat → Nat) {j : Nat} (h : j < b ∨ b + 6 ≤ j) : w6 w b m j = w j := by
  unfold w6
  rw [pk_un (by omega), pk_un (by omega), pk_un (by omega), pk_un (by omega), pk_un (by omega), pk_un (by omega)]
theorem rel_w {v : SV} {y : Int32} {x : LV} (hr : Rel v y x) (m : Nat → Nat) {b : Nat} (hb : 6 * v.wm ≤ b) : Rel v y (x.wS (w6 x.w b m)) := by
  obtain ⟨r1, r2, r3, r4, r5, r6, r7, r8, r9, r10, r11, r12⟩ := hr
  refine ⟨r1, r2, r3, r4, fun j i hj hi => ?_, r6, r7, r8, r9, r10, r11, r12⟩
  show w6 x.w b m (6 * j + i) = _
  rw [w6_out _ _ _ (by omega)]
  exact r5 j i hj hi
/-- what the law has behind a move -/
def mvL (x : LV) (b : Nat) (m : Nat → Nat) (bef : Nat → Int32) (k : Int32) : LV := (dmv (x.wS (w6 x.w b m)) bef 48).ggS (upd x.gg 2 (x.gg 2 + k))
set_option maxRecDepth 100000 in
theorem rel_move {v : SV} {y : Int32} {x : LV} {T : Nat} {m : Nat → Nat} {bef : Nat → Int32} (hr : Rel v y x) (hi : Inv v T) (hbef : ∀ t, t < 48 → bef t = apF m v.near v.before t) : Rel (shV v m) y (mvL x (if v.wm < 4 then 6 * v.wm else 24) m bef (if v.wm < 4 then 1 else 0)) := by
  obtain ⟨r1, r2, r3, r4, r5, r6, r7, r8, r9, r10, r11, r12⟩ := id hr
  have hw4 : v.wm ≤ 4 := hi.1.1
  generalize hB : (if v.wm < 4 then 6 * v.wm else 24) = b
  have hb : 6 * v.wm ≤ b := by rw [← hB]; split <;> omega
  obtain ⟨k1, k2, k3, k4⟩ := dmv_keep (x.wS (w6 x.w b m)) bef 48
  have Q := dmv_at (x.wS (w6 x.w b m)) bef 48
  have eM : ∀ K, mvL x b m bef K = (dmv (x.wS (w6 x.w b m)) bef 48).ggS (upd x.gg 2 (x.gg 2 + K)) := fun K => rfl
  generalize dmv (x.wS (w6 x.w b m)) bef 48 = D at k1 k2 k3 k4 Q eM
  have hn : ∀ t, t < 48 → (shV v m).near t = bef t := fun t ht => by
    have e : (shV v m).near t = apF (mvU v.mv v.wm m v.wm) v.near v.before t := rfl
    rw [e, hbef t ht, show mvU v.mv v.wm m v.wm = m from if_pos rfl]
  have eg : ∀ j, ¬ j = 2 → (mvL x b m bef (if v.wm < 4 then 1 else 0)).gg j = x.gg j := fun j hj => by rw [eM]; exact pk_un hj
  have e2 : (mvL x b m bef (if v.wm < 4 then 1 else 0)).gg 2 = x.gg 2 + (if v.wm < 4 then 1 else 0) := by
    rw [eM]
    show upd x.gg 2 (x.gg 2 + (if v.wm < 4 then 1 else 0)) 2 = _
    exact pk_us
  refine ⟨fun t ht => ?_, fun t ht => ?_, fun t ht => ?_, fun t ht => ?_, fun j i hj hi => ?_, ?_, ?_, ?_, ?_, ?_, ?_, fun k hk => ?_⟩
  · rw [hn t ht, eM]
    exact ((Q t).1 ht).1
  · rw [eM]
    show D.f t = v.far t
    rw [k1]; exact r2 t ht
  · have e : (shV v m).since t = if (shV v m).near t = v.far t then -1 else if v.since t = -1 then v.now else v.since t := nu_at _ ht
    rw [e, hn t ht, eM]
    show D.u t = _
    rw [((Q t).1 ht).2.2]
    exact lu_is (rel_w hr m hb) hi.1 ht (bef t)
  · have e : (shV v m).ch t = if (shV v m).near t = fz_to v.near v.before 48 t then v.ch t else v.ch t ||| 1 := nc_at _ ht
    rw [e, hn t ht, fz_to_lt ht, eM]
    show D.h t = _
    rw [((Q t).1 ht).2.1]
    show (if x.n t = bef t then x.h t else x.h t ||| 1) = _
    rw [r1 t ht, r4 t ht]
    by_cases c : v.near t = bef t
    · rw [if_pos c, if_pos c.symm]
    · rw [if_neg c, if_neg (fun z => c z.symm)]
  · rw [eM]
    show D.w (6 * j + i) = nI (mvU v.mv v.wm m j i)
    rw [k2]
    show w6 x.w b m (6 * j + i) = nI (mvU v.mv v.wm m j i)
    have hj : j < (if v.wm < 4 then v.wm + 1 else v.wm) := hj
    by_cases c : j = v.wm
    · have c4 : v.wm < 4 := by
        rcases (show v.wm < 4 ∨ ¬ v.wm < 4 by omega) with z | z
        · exact z
        · rw [if_neg z] at hj; omega
      rw [if_pos c4] at hB
      have e : mvU v.mv v.wm m j = m := if_pos c
      rw [e, c, hB]
      exact w6_in x.w b m i hi
    · have e : mvU v.mv v.wm m j = v.mv j := if_neg c
      have hj2 : j < v.wm := by
        rcases (show v.wm < 4 ∨ ¬ v.wm < 4 by omega) with z | z
        · rw [if_pos z] at hj; omega
        · rw [if_neg z] at hj; exact hj
      rw [e, w6_out _ _ _ (by omega)]
      exact r5 j i hj2 hi
  · rw [eM]
    show ∀ k, k < v.kc → D.kn k = v.kp k + 1
    rw [k3]; exact r6
  · rw [eM]
    show ∀ k, v.kc ≤ k → k < 8 → D.kn k = 0
    rw [k3]; exact r7
  · rw [eg 0 (by omega)]; exact r8
  · rw [eg 1 (by omega)]; exact r9
  · show _ = nI (if v.wm < 4 then v.wm + 1 else v.wm)
    rw [e2, r10]
    by_cases c : v.wm < 4
    · rw [if_pos c, if_pos c]; exact nI_1 _
    · rw [if_neg c, if_neg c]; exact Int32.add_zero _
  · rw [eg 3 (by omega)]; exact r11
  · rw [eg (4 + k) (by omega)]; exact r12 k hk
theorem apF_near {v : SV} {T : Nat} {m : Nat → Nat} (hi : Inw v T) (hm : MOK m) (scr : Nat → Int32) (B : Nat) (hs : ∀ t, t < 48 → ∃ k, k < B ∧ scr t = nI k) (bef : Nat → Int32) : ∀ t, t < 48 → ∃ k, k < B ∧ apF m scr bef t = nI k := by
  intro t ht
  obtain ⟨a1, a2, a3, a4⟩ := id hm
  obtain ⟨p1, p2⟩ := apR_at m (fz_to scr bef 48) scr a3 (m 3) t
  show ∃ k, k < B ∧ apR m (fz_to scr bef 48) scr (m 3) t = nI k
  by_cases z : inb (m 4) (m 5) (m 2) (m 3) t
  · have b : srcT m t < 48 := by
      unfold inb at z
      unfold srcT
      omega
    rw [p1 z, fz_to_lt b]
    exact hs _ b
  · rw [p2 z]; exact hs t ht
set_option maxRecDepth 100000 in
theorem inv_move {v : SV} {T : Nat} {m : Nat → Nat} (hi : Inv v T) (hm : MOK m) (h1 : 1 ≤ m 2) : Inv (shV v m) T := by
  refine inv_nu (inw_nc ?_)
  obtain ⟨q1, q2, q3, q4, q5, q6, q7, q8, q9, hT⟩ := id hi.1
  refine ⟨?_, q2, fun j hj => ?_, q4, fun t ht => ?_, q6, q7, q8, q9, hT⟩
  · show (if v.wm < 4 then v.wm + 1 else v.wm) ≤ 4
    split <;> omega
  · show MOK (mvU v.mv v.wm m j) ∧ 1 ≤ mvU v.mv v.wm m j 2
    have hj : j < (if v.wm < 4 then v.wm + 1 else v.wm) := hj
    by_cases c : j = v.wm
    · have e : mvU v.mv v.wm m j = m := if_pos c
      rw [e]; exact ⟨hm, h1⟩
    · have e : mvU v.mv v.wm m j = v.mv j := if_neg c
      rw [e]
      refine q3 j ?_
      rcases (show v.wm < 4 ∨ ¬ v.wm < 4 by omega) with z | z
      · rw [if_pos z] at hj; omega
      · rw [if_neg z] at hj; exact hj
  · show ∃ k, k < 256 ∧ apF (mvU v.mv v.wm m v.wm) v.near v.before t = nI k
    rw [show mvU v.mv v.wm m v.wm = m from if_pos rfl]
    exact apF_near hi.1 hm v.near 256 q5 v.before t ht
theorem rel_look {v : SV} {y : Int32} {x : LV} (hr : Rel v y x) (t : Nat) : Rel (v.laS t) y (x.ggS (upd x.gg 1 (nI t))) := by
  obtain ⟨r1, r2, r3, r4, r5, r6, r7, r8, r9, r10, r11, r12⟩ := hr
  have eg : ∀ j, ¬ j = 1 → (x.ggS (upd x.gg 1 (nI t))).gg j = x.gg j := fun j hj => pk_un hj
  exact ⟨r1, r2, r3, r4, r5, r6, r7, (eg 0 (by omega)).trans r8, show upd x.gg 1 (nI t) 1 = nI t from pk_us, (eg 2 (by omega)).trans r10, (eg 3 (by omega)).trans r11, fun k hk => (eg (4 + k) (by omega)).trans (r12 k hk)⟩
theorem inv_look {v : SV} {T t : Nat} (hi : Inv v T) (ht : t < 48) : Inv (v.laS t) T := by
  obtain ⟨⟨q1, q2, q3, q4, q5, q6, q7, q8, q9, hT⟩, hu⟩ := hi
  exact ⟨⟨q1, q2, q3, ht, q5, q6, q7, q8, q9, hT⟩, hu⟩
