/-! a block of tiles is filled, on both sides -/
def inb (x y w h t : Nat) : Prop := (x ≤ t % 8 ∧ t % 8 < x + w) ∧ (y ≤ t / 8 ∧ t / 8 < y + h)
theorem paC_at (p : Int32) (x row : Nat) (scr : Nat → Int32) : ∀ c, x + c ≤ 8 → ∀ t, ((t / 8 = row ∧ x ≤ t % 8 ∧ t % 8 < x + c) → paC p x row scr c t = p) ∧ (¬ (t / 8 = row ∧ x ≤ t % 8 ∧ t % 8 < x + c) → paC p x row scr c t = scr t) := by
  intro c
  induction c with
  | zero => intro _ t; exact ⟨fun h => by omega, fun _ => rfl⟩
  | succ c ih =>
    intro hc t
    have e : paC p x row scr (c + 1) = upd (paC p x row scr c) (8 * row + (x + c)) p := rfl
    obtain ⟨i1, i2⟩ := ih (by omega) t
    rw [e]
    by_cases z : t = 8 * row + (x + c)
    · rw [z, pk_us]
      exact ⟨fun _ => rfl, fun h => absurd (show (8 * row + (x + c)) / 8 = row ∧ x ≤ (8 * row + (x + c)) % 8 ∧ (8 * row + (x + c)) % 8 < x + (c + 1) by omega) h⟩
    · rw [pk_un z]
      exact ⟨fun h => i1 (by omega), fun h => i2 (by omega)⟩
theorem paR_at (p : Int32) (x y w : Nat) (scr : Nat → Int32) (hw : x + w ≤ 8) : ∀ h t, (inb x y w h t → paR p x y w scr h t = p) ∧ (¬ inb x y w h t → paR p x y w scr h t = scr t) := by
  intro h
  induction h with
  | zero => intro t; exact ⟨fun k => by unfold inb at k; omega, fun _ => rfl⟩
  | succ h ih =>
    intro t
    have e : paR p x y w scr (h + 1) = paC p x (y + h) (paR p x y w scr h) w := rfl
    obtain ⟨i1, i2⟩ := ih t
    obtain ⟨c1, c2⟩ := paC_at p x (y + h) (paR p x y w scr h) w hw t
    rw [e]
    unfold inb at *
    by_cases z : t / 8 = y + h ∧ x ≤ t % 8 ∧ t % 8 < x + w
    · exact ⟨fun _ => c1 z, fun k => absurd (by omega) k⟩
    · rw [c2 z]
      exact ⟨fun k => i1 (by omega), fun k => i2 (by omega)⟩
