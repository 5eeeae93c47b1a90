/-! both fill the same block -/
theorem vis_inb {x y w h t : Nat} (h1 : 1 ≤ w) : vis x y w (w * h) t ↔ inb x y w h t := by
  unfold vis inb ixb
  refine ⟨fun k => ⟨k.1, k.2.1, ?_⟩, fun k => ⟨k.1, k.2.1, ?_⟩⟩
  · obtain ⟨⟨a, b⟩, c, d⟩ := k
    rcases (show t / 8 - y < h ∨ h ≤ t / 8 - y by omega) with z | z
    · omega
    · have := Nat.mul_le_mul_right w z
      rw [Nat.mul_comm h w] at this
      omega
  · obtain ⟨⟨a, b⟩, c, d⟩ := k
    have z : t / 8 - y + 1 ≤ h := by omega
    have := Nat.mul_le_mul_right w z
    rw [Nat.mul_comm h w, Nat.add_mul, Nat.one_mul] at this
    omega
theorem mfl_rest (m : MV) (x y w : Nat) (q : Int32) : ∀ n, (mfl m x y w q n).moves = m.moves ∧ (mfl m x y w q n).mF = m.mF ∧ (mfl m x y w q n).mT = m.mT ∧ (mfl m x y w q n).mW = m.mW ∧ (mfl m x y w q n).mH = m.mH ∧ (mfl m x y w q n).pics = m.pics ∧ (mfl m x y w q n).known = m.known ∧ (mfl m x y w q n).sent = m.sent ∧ (mfl m x y w q n).used = m.used ∧ (mfl m x y w q n).look = m.look := by
  intro n
  induction n with
  | zero => exact ⟨rfl, rfl, rfl, rfl, rfl, rfl, rfl, rfl, rfl, rfl⟩
  | succ n ih => exact ih
set_option maxRecDepth 100000 in
theorem or_all : ∀ k : Fin 256, nI k.val ||| 1 = nI (k.val ||| 1) ∧ (k.val ||| 1) < 256 := by decide +kernel
