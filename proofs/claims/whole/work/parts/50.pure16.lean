/-! a block is copied, tile by tile -/
def srcT (f : Nat → Nat) (t : Nat) : Nat := 8 * (f 1 + (t / 8 - f 5)) + (f 0 + (t % 8 - f 4))
theorem apC_at (f : Nat → Nat) (bef : Nat → Int32) (r : Nat) (scr : Nat → Int32) : ∀ c, f 4 + c ≤ 8 → ∀ t, ((t / 8 = f 5 + r ∧ f 4 ≤ t % 8 ∧ t % 8 < f 4 + c) → apC f bef r scr c t = bef (srcT f t)) ∧ (¬ (t / 8 = f 5 + r ∧ f 4 ≤ t % 8 ∧ t % 8 < f 4 + c) → apC f bef r scr c t = scr t) := by
  intro c
  induction c with
  | zero => intro _ t; exact ⟨fun h => by omega, fun _ => rfl⟩
  | succ c ih =>
    intro hc t
    have e : apC f bef r scr (c + 1) = upd (apC f bef r scr c) (8 * (f 5 + r) + (f 4 + c)) (bef (8 * (f 1 + r) + (f 0 + c))) := rfl
    obtain ⟨i1, i2⟩ := ih (by omega) t
    rw [e]
    by_cases z : t = 8 * (f 5 + r) + (f 4 + c)
    · have q : srcT f t = 8 * (f 1 + r) + (f 0 + c) := by
        unfold srcT
        have z1 : t / 8 = f 5 + r := by omega
        have z2 : t % 8 = f 4 + c := by omega
        rw [z1, z2]
        omega
      rw [q, z, pk_us]
      exact ⟨fun _ => rfl, fun h => absurd (show (8 * (f 5 + r) + (f 4 + c)) / 8 = f 5 + r ∧ f 4 ≤ (8 * (f 5 + r) + (f 4 + c)) % 8 ∧ (8 * (f 5 + r) + (f 4 + c)) % 8 < f 4 + (c + 1) by omega) h⟩
    · rw [pk_un z]
      exact ⟨fun h => i1 (by omega), fun h => i2 (by omega)⟩
theorem apR_at (f : Nat → Nat) (bef scr : Nat → Int32) (hw : f 4 + f 2 ≤ 8) : ∀ h t, (inb (f 4) (f 5) (f 2) h t → apR f bef scr h t = bef (srcT f t)) ∧ (¬ inb (f 4) (f 5) (f 2) h t → apR f bef scr h t = scr t) := by
  intro h
  induction h with
  | zero => intro t; exact ⟨fun k => by unfold inb at k; omega, fun _ => rfl⟩
  | succ h ih =>
    intro t
    have e : apR f bef scr (h + 1) = apC f bef h (apR f bef scr h) (f 2) := rfl
    obtain ⟨i1, i2⟩ := ih t
    obtain ⟨c1, c2⟩ := apC_at f bef h (apR f bef scr h) (f 2) hw t
    rw [e]
    unfold inb at *
    by_cases z : t / 8 = f 5 + h ∧ f 4 ≤ t % 8 ∧ t % 8 < f 4 + f 2
    · exact ⟨fun _ => c1 z, fun k => absurd (by omega) k⟩
    · rw [c2 z]
      exact ⟨fun k => i1 (by omega), fun k => i2 (by omega)⟩
