/-! blocks of tiles, filled and moved (the first rows are of whole) -/
theorem up_eq {f g : Nat → Int32} {n i : Nat} {x y : Int32} (h : ∀ j, j < n → f j = g j) (e : x = y) : ∀ j, j < n → upd f i x j = upd g i y j := by
  intro j hj
  by_cases z : j = i
  · rw [z, pk_us, pk_us, e]
  · rw [pk_un z, pk_un z]
    exact h j hj
def inb (x y w h t : Nat) : Prop := (x ≤ t % 8 ∧ t % 8 < x + w) ∧ (y ≤ t / 8 ∧ t / 8 < y + h)
theorem paC_at (p : Int32) (x row : Nat) (scr : Nat → Int32) : ∀ c, x + c ≤ 8 → ∀ t, ((t / 8 = row ∧ x ≤ t % 8 ∧ t % 8 < x + c) → paC p x row scr c t = p) ∧ (¬ (t / 8 = row ∧ x ≤ t % 8 ∧ t % 8 < x + c) → paC p x row scr c t = scr t) := by
  intro c
  induction c with
  | zero => intro _ t; exact ⟨fun h => by omega, fun _ => rfl⟩
  | succ c ih =>
    intro hc t
    have e : paC p x row scr (c + 1) = upd (paC p x row scr c) (8 * row + (x + c)) p := rfl
    obtain ⟨i1, i2⟩ := ih (by omega) t
    rw [e]
    by_cases z : t = 8 * row + (x + c)
    · rw [z, pk_us]
      exact ⟨fun _ => rfl, fun h => absurd (show (8 * row + (x + c)) / 8 = row ∧ x ≤ (8 * row + (x + c)) % 8 ∧ (8 * row + (x + c)) % 8 < x + (c + 1) by omega) h⟩
    · rw [pk_un z]
      exact ⟨fun h => i1 (by omega), fun h => i2 (by omega)⟩
theorem paR_at (p : Int32) (x y w : Nat) (scr : Nat → Int32) (hw : x + w ≤ 8) : ∀ h t, (inb x y w h t → paR p x y w scr h t = p) ∧ (¬ inb x y w h t → paR p x y w scr h t = scr t) := by
  intro h
  induction h with
  | zero => intro t; exact ⟨fun k => by unfold inb at k; omega, fun _ => rfl⟩
  | succ h ih =>
    intro t
    have e : paR p x y w scr (h + 1) = paC p x (y + h) (paR p x y w scr h) w := rfl
    obtain ⟨i1, i2⟩ := ih t
    obtain ⟨c1, c2⟩ := paC_at p x (y + h) (paR p x y w scr h) w hw t
    rw [e]
    unfold inb at *
    by_cases z : t / 8 = y + h ∧ x ≤ t % 8 ∧ t % 8 < x + w
    · exact ⟨fun _ => c1 z, fun k => absurd (by omega) k⟩
    · rw [c2 z]
      exact ⟨fun k => i1 (by omega), fun k => i2 (by omega)⟩
def ixb (x y w t : Nat) : Nat := (t / 8 - y) * w + (t % 8 - x)
def vis (x y w n t : Nat) : Prop := (x ≤ t % 8 ∧ t % 8 < x + w) ∧ y ≤ t / 8 ∧ ixb x y w t < n
theorem til_ix {x y w n : Nat} (h1 : 1 ≤ w) (hw : x + w ≤ 8) : (x ≤ (8 * (y + n / w) + x + n % w) % 8 ∧ (8 * (y + n / w) + x + n % w) % 8 < x + w) ∧ y ≤ (8 * (y + n / w) + x + n % w) / 8 ∧ ixb x y w (8 * (y + n / w) + x + n % w) = n := by
  have b : n % w < w := Nat.mod_lt _ (by omega)
  have e := Nat.div_add_mod' n w
  unfold ixb
  generalize n % w = d at *
  generalize n / w = c at *
  have e1 : (8 * (y + c) + x + d) % 8 = x + d := by omega
  have e2 : (8 * (y + c) + x + d) / 8 = y + c := by omega
  rw [e1, e2, show y + c - y = c by omega, show x + d - x = d by omega]
  exact ⟨⟨by omega, by omega⟩, by omega, e⟩
theorem ix_til {x y w t : Nat} (h1 : 1 ≤ w) (c : x ≤ t % 8 ∧ t % 8 < x + w) (r : y ≤ t / 8) : t = 8 * (y + ixb x y w t / w) + x + ixb x y w t % w := by
  have hd : t % 8 - x < w := by omega
  have e1 : ixb x y w t / w = t / 8 - y := by
    unfold ixb
    rw [Nat.add_comm, Nat.add_mul_div_right _ _ (by omega), Nat.div_eq_of_lt hd, Nat.zero_add]
  have e2 : ixb x y w t % w = t % 8 - x := by
    unfold ixb
    rw [Nat.add_comm, Nat.add_mul_mod_self_right, Nat.mod_eq_of_lt hd]
  rw [e1, e2]
  omega
theorem vis_inb {x y w h t : Nat} (h1 : 1 ≤ w) : vis x y w (w * h) t ↔ inb x y w h t := by
  unfold vis inb ixb
  refine ⟨fun k => ⟨k.1, k.2.1, ?_⟩, fun k => ⟨k.1, k.2.1, ?_⟩⟩
  · obtain ⟨⟨a, b⟩, c, d⟩ := k
    rcases (show t / 8 - y < h ∨ h ≤ t / 8 - y by omega) with z | z
    · omega
    · have := Nat.mul_le_mul_right w z
      rw [Nat.mul_comm h w] at this
      omega
  · obtain ⟨⟨a, b⟩, c, d⟩ := k
    have z : t / 8 - y + 1 ≤ h := by omega
    have := Nat.mul_le_mul_right w z
    rw [Nat.mul_comm h w, Nat.add_mul, Nat.one_mul] at this
    omega
set_option maxRecDepth 100000 in
theorem or_all : ∀ k : Fin 256, nI k.val ||| 1 = nI (k.val ||| 1) ∧ (k.val ||| 1) < 256 := by decide +kernel
def srcT (f : Nat → Nat) (t : Nat) : Nat := 8 * (f 1 + (t / 8 - f 5)) + (f 0 + (t % 8 - f 4))
theorem apC_at (f : Nat → Nat) (bef : Nat → Int32) (r : Nat) (scr : Nat → Int32) : ∀ c, f 4 + c ≤ 8 → ∀ t, ((t / 8 = f 5 + r ∧ f 4 ≤ t % 8 ∧ t % 8 < f 4 + c) → apC f bef r scr c t = bef (srcT f t)) ∧ (¬ (t / 8 = f 5 + r ∧ f 4 ≤ t % 8 ∧ t % 8 < f 4 + c) → apC f bef r scr c t = scr t) := by
  intro c
  induction c with
  | zero => intro _ t; exact ⟨fun h => by omega, fun _ => rfl⟩
  | succ c ih =>
    intro hc t
    have e : apC f bef r scr (c + 1) = upd (apC f bef r scr c) (8 * (f 5 + r) + (f 4 + c)) (bef (8 * (f 1 + r) + (f 0 + c))) := rfl
    obtain ⟨i1, i2⟩ := ih (by omega) t
    rw [e]
    by_cases z : t = 8 * (f 5 + r) + (f 4 + c)
    · have q : srcT f t = 8 * (f 1 + r) + (f 0 + c) := by
        unfold srcT
        have z1 : t / 8 = f 5 + r := by omega
        have z2 : t % 8 = f 4 + c := by omega
        rw [z1, z2]
        omega
      rw [q, z, pk_us]
      exact ⟨fun _ => rfl, fun h => absurd (show (8 * (f 5 + r) + (f 4 + c)) / 8 = f 5 + r ∧ f 4 ≤ (8 * (f 5 + r) + (f 4 + c)) % 8 ∧ (8 * (f 5 + r) + (f 4 + c)) % 8 < f 4 + (c + 1) by omega) h⟩
    · rw [pk_un z]
      exact ⟨fun h => i1 (by omega), fun h => i2 (by omega)⟩
theorem apR_at (f : Nat → Nat) (bef scr : Nat → Int32) (hw : f 4 + f 2 ≤ 8) : ∀ h t, (inb (f 4) (f 5) (f 2) h t → apR f bef scr h t = bef (srcT f t)) ∧ (¬ inb (f 4) (f 5) (f 2) h t → apR f bef scr h t = scr t) := by
  intro h
  induction h with
  | zero => intro t; exact ⟨fun k => by unfold inb at k; omega, fun _ => rfl⟩
  | succ h ih =>
    intro t
    have e : apR f bef scr (h + 1) = apC f bef h (apR f bef scr h) (f 2) := rfl
    obtain ⟨i1, i2⟩ := ih t
    obtain ⟨c1, c2⟩ := apC_at f bef h (apR f bef scr h) (f 2) hw t
    rw [e]
    unfold inb at *
    by_cases z : t / 8 = f 5 + h ∧ f 4 ≤ t % 8 ∧ t % 8 < f 4 + f 2
    · exact ⟨fun _ => c1 z, fun k => absurd (by omega) k⟩
    · rw [c2 z]
      exact ⟨fun k => i1 (by omega), fun k => i2 (by omega)⟩
def fgV (v : SV) (told : Nat) : SV := tsV (fmV v told) told
theorem i_told (b : Int32) (told : Nat) : b - nI told * 2 + (-2) = b - nI (told + 1) * 2 := by
  rw [← nI_1]
  generalize nI told = x
  grind
theorem i_bcd (b c d : Int32) : c + (b - c - d) = b - d := by grind
theorem i_bbc (b c : Int32) : b - (b - c) = c := by grind
/-- a block's tiles that are moved by then -/
def mvd (m : Nat → Nat) (i z : Nat) : Prop := (dstN m ≤ srcN m ∧ z < i) ∨ (srcN m < dstN m ∧ m 2 * m 3 - i ≤ z)
theorem dT_mono {m : Nat → Nat} (hm : MOK m) (h1 : 1 ≤ m 2) {z y : Nat} (hz : z < y) : dT m z < dT m y := by
  obtain ⟨a1, a2, a3, a4⟩ := hm
  have b1 := Nat.mod_lt z h1
  have b2 := Nat.mod_lt y h1
  have e1 := Nat.div_add_mod z (m 2)
  have e2 := Nat.div_add_mod y (m 2)
  have hd : z / m 2 ≤ y / m 2 := Nat.div_le_div_right (Nat.le_of_lt hz)
  unfold dT
  rcases (show z / m 2 = y / m 2 ∨ z / m 2 < y / m 2 by omega) with q | q
  · rw [q] at e1 ⊢
    omega
  · omega
theorem sd_T (m : Nat → Nat) (z : Nat) : sT m z + dstN m = dT m z + srcN m := by
  unfold sT dT dstN srcN
  omega
theorem shN_at {m : Nat → Nat} (hm : MOK m) (h1 : 1 ≤ m 2) (scr : Nat → Int32) : ∀ i, i ≤ m 2 * m 3 → ∀ t, (vis (m 4) (m 5) (m 2) (m 2 * m 3) t ∧ mvd m i (ixb (m 4) (m 5) (m 2) t) → shN m scr i t = scr (sT m (ixb (m 4) (m 5) (m 2) t))) ∧ (¬ (vis (m 4) (m 5) (m 2) (m 2 * m 3) t ∧ mvd m i (ixb (m 4) (m 5) (m 2) t)) → shN m scr i t = scr t) := by
  intro i
  induction i with
  | zero =>
    intro _ t
    refine ⟨fun h => ?_, fun _ => rfl⟩
    obtain ⟨⟨-, -, v⟩, h⟩ := h
    unfold mvd at h
    omega
  | succ i ih =>
    intro hi t
    have ih := ih (by omega)
    have a3 : m 4 + m 2 ≤ 8 := hm.2.2.1
    have e : shN m scr (i + 1) = upd (shN m scr i) (dT m (shA9 m i)) (shN m scr i (sT m (shA9 m i))) := rfl
    have hz : shA9 m i < m 2 * m 3 := by
      unfold shA9
      split <;> omega
    have hz2 : (dstN m ≤ srcN m ∧ shA9 m i = i) ∨ (srcN m < dstN m ∧ shA9 m i = m 2 * m 3 - 1 - i) := by
      unfold shA9
      by_cases q : dstN m ≤ srcN m
      · rw [if_pos q]; exact Or.inl ⟨q, rfl⟩
      · rw [if_neg q]; exact Or.inr ⟨by omega, rfl⟩
    obtain ⟨t1, t2, t3⟩ := til_ix (x := m 4) (y := m 5) (n := shA9 m i) h1 a3
    have t1 : m 4 ≤ dT m (shA9 m i) % 8 ∧ dT m (shA9 m i) % 8 < m 4 + m 2 := t1
    have t2 : m 5 ≤ dT m (shA9 m i) / 8 := t2
    have t3 : ixb (m 4) (m 5) (m 2) (dT m (shA9 m i)) = shA9 m i := t3
    generalize hZ : shA9 m i = z at *
    -- what is read is as it was
    have hr : shN m scr i (sT m z) = scr (sT m z) := by
      refine (ih (sT m z)).2 (fun k => ?_)
      obtain ⟨k1, k2⟩ := k
      have q := ix_til h1 k1.1 k1.2.1
      have q : sT m z = dT m (ixb (m 4) (m 5) (m 2) (sT m z)) := q
      have s := sd_T m z
      unfold mvd at k2
      rcases k2 with ⟨b1, b2⟩ | ⟨b1, b2⟩
      · have := dT_mono hm h1 (show ixb (m 4) (m 5) (m 2) (sT m z) < z by omega)
        omega
      · have := dT_mono hm h1 (show z < ixb (m 4) (m 5) (m 2) (sT m z) by omega)
        omega
    rw [e, hr]
    by_cases y : t = dT m z
    · rw [y, pk_us, t3]
      refine ⟨fun _ => rfl, fun k => absurd ⟨⟨t1, t2, by rw [t3]; exact hz⟩, ?_⟩ k⟩
      unfold mvd
      omega
    · rw [pk_un y]
      have same : (vis (m 4) (m 5) (m 2) (m 2 * m 3) t ∧ mvd m (i + 1) (ixb (m 4) (m 5) (m 2) t)) ↔ (vis (m 4) (m 5) (m 2) (m 2 * m 3) t ∧ mvd m i (ixb (m 4) (m 5) (m 2) t)) := by
        refine ⟨fun v => ⟨v.1, ?_⟩, fun v => ⟨v.1, ?_⟩⟩
        · have l := v.2
          have k := ix_til h1 v.1.1 v.1.2.1
          have k : t = dT m (ixb (m 4) (m 5) (m 2) t) := k
          have hne : ¬ ixb (m 4) (m 5) (m 2) t = z := fun r => y (by rw [r] at k; exact k)
          unfold mvd at l ⊢
          omega
        · have l := v.2
          unfold mvd at l ⊢
          omega
      rw [same]
      exact ih t
theorem sT_src {m : Nat → Nat} (h1 : 1 ≤ m 2) {t : Nat} (c : m 4 ≤ t % 8 ∧ t % 8 < m 4 + m 2) (r : m 5 ≤ t / 8) : sT m (ixb (m 4) (m 5) (m 2) t) = srcT m t := by
  have hd : t % 8 - m 4 < m 2 := by omega
  have e1 : ixb (m 4) (m 5) (m 2) t / m 2 = t / 8 - m 5 := by
    unfold ixb
    rw [Nat.add_comm, Nat.add_mul_div_right _ _ (by omega), Nat.div_eq_of_lt hd, Nat.zero_add]
  have e2 : ixb (m 4) (m 5) (m 2) t % m 2 = t % 8 - m 4 := by
    unfold ixb
    rw [Nat.add_comm, Nat.add_mul_mod_self_right, Nat.mod_eq_of_lt hd]
  unfold sT srcT
  rw [e1, e2]
  omega
/-- in place or out of a copy: the same -/
theorem shN_ap {m : Nat → Nat} (hm : MOK m) (h1 : 1 ≤ m 2) (scr scr' bef : Nat → Int32) (e : ∀ t, t < 48 → scr t = scr' t) : ∀ t, t < 48 → shN m scr (m 2 * m 3) t = apF m scr' bef t := by
  intro t ht
  obtain ⟨a1, a2, a3, a4⟩ := id hm
  obtain ⟨k1, k2⟩ := shN_at hm h1 scr (m 2 * m 3) (Nat.le_refl _) t
  obtain ⟨p1, p2⟩ := apR_at m (fz_to scr' bef 48) scr' a3 (m 3) t
  by_cases z : inb (m 4) (m 5) (m 2) (m 3) t
  · have v := (vis_inb h1).mpr z
    rw [k1 ⟨v, by have := v.2.2; unfold mvd; omega⟩, sT_src h1 v.1 v.2.1]
    have b : srcT m t < 48 := by
      unfold inb at z
      unfold srcT
      omega
    show scr (srcT m t) = apR m (fz_to scr' bef 48) scr' (m 3) t
    rw [p1 z, fz_to_lt b, e _ b]
  · rw [k2 (fun v => z ((vis_inb h1).mp v.1))]
    show scr t = apR m (fz_to scr' bef 48) scr' (m 3) t
    rw [p2 z, e t ht]
