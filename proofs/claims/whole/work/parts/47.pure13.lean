/-! the reference's filling, tile by tile -/
def ixb (x y w t : Nat) : Nat := (t / 8 - y) * w + (t % 8 - x)
def vis (x y w n t : Nat) : Prop := (x ≤ t % 8 ∧ t % 8 < x + w) ∧ y ≤ t / 8 ∧ ixb x y w t < n
theorem til_ix {x y w n : Nat} (h1 : 1 ≤ w) (hw : x + w ≤ 8) : (x ≤ (8 * (y + n / w) + x + n % w) % 8 ∧ (8 * (y + n / w) + x + n % w) % 8 < x + w) ∧ y ≤ (8 * (y + n / w) + x + n % w) / 8 ∧ ixb x y w (8 * (y + n / w) + x + n % w) = n := by
  have b : n % w < w := Nat.mod_lt _ (by omega)
  have e := Nat.div_add_mod' n w
  unfold ixb
  generalize n % w = d at *
  generalize n / w = c at *
  have e1 : (8 * (y + c) + x + d) % 8 = x + d := by omega
  have e2 : (8 * (y + c) + x + d) / 8 = y + c := by omega
  rw [e1, e2, show y + c - y = c by omega, show x + d - x = d by omega]
  exact ⟨⟨by omega, by omega⟩, by omega, e⟩
theorem ix_til {x y w t : Nat} (h1 : 1 ≤ w) (c : x ≤ t % 8 ∧ t % 8 < x + w) (r : y ≤ t / 8) : t = 8 * (y + ixb x y w t / w) + x + ixb x y w t % w := by
  have hd : t % 8 - x < w := by omega
  have e1 : ixb x y w t / w = t / 8 - y := by
    unfold ixb
    rw [Nat.add_comm, Nat.add_mul_div_right _ _ (by omega), Nat.div_eq_of_lt hd, Nat.zero_add]
  have e2 : ixb x y w t % w = t % 8 - x := by
    unfold ixb
    rw [Nat.add_comm, Nat.add_mul_mod_self_right, Nat.mod_eq_of_lt hd]
  rw [e1, e2]
  omega
theorem mfl_keep (m : MV) (x y w : Nat) (q : Int32) : ∀ n, (mfl m x y w q n).far = m.far ∧ (mfl m x y w q n).time = m.time := by
  intro n
  induction n with
  | zero => exact ⟨rfl, rfl⟩
  | succ n ih => exact ih
theorem mfl_at (m : MV) {x y w : Nat} (q : Int32) (h1 : 1 ≤ w) (hw : x + w ≤ 8) : ∀ n t, (vis x y w n t → (mfl m x y w q n).near t = q ∧ (mfl m x y w q n).ch t = m.ch t ||| (if m.near t = q then 0 else 1) ∧ (mfl m x y w q n).since t = (if m.far t = q then -1 else if m.since t = -1 then m.time else m.since t)) ∧ (¬ vis x y w n t → (mfl m x y w q n).near t = m.near t ∧ (mfl m x y w q n).ch t = m.ch t ∧ (mfl m x y w q n).since t = m.since t) := by
  intro n
  induction n with
  | zero => intro t; exact ⟨fun h => absurd h.2.2 (Nat.not_lt_zero _), fun _ => ⟨rfl, rfl, rfl⟩⟩
  | succ n ih =>
    intro t
    obtain ⟨i1, i2⟩ := ih t
    obtain ⟨k1, k2⟩ := mfl_keep m x y w q n
    obtain ⟨t1, t2, t3⟩ := til_ix (y := y) (n := n) h1 hw
    have e : mfl m x y w q (n + 1) = mdV (mfl m x y w q n) (8 * (y + n / w) + x + n % w) q := rfl
    rw [e]
    generalize hM : mfl m x y w q n = M at *
    generalize hT : 8 * (y + n / w) + x + n % w = T at *
    have en : (mdV M T q).near t = upd M.near T q t := rfl
    have ec : (mdV M T q).ch t = upd M.ch T (M.ch T ||| (if M.near T = q then 0 else 1)) t := rfl
    have es : (mdV M T q).since t = upd M.since T (if M.far T = upd M.near T q T then -1 else if M.since T = -1 then M.time else M.since T) t := rfl
    rw [en, ec, es]
    by_cases z : t = T
    · have nv : ¬ vis x y w n t := fun v => by
        have := v.2.2
        rw [z, t3] at this
        omega
      obtain ⟨a1, a2, a3⟩ := i2 nv
      rw [z] at a1 a2 a3 ⊢
      rw [pk_us, pk_us, pk_us, a1, a2, a3, k1, k2]
      exact ⟨fun _ => ⟨rfl, rfl, rfl⟩, fun h => absurd ⟨t1, t2, by rw [t3]; omega⟩ h⟩
    · rw [pk_un z, pk_un z, pk_un z]
      have same : vis x y w (n + 1) t ↔ vis x y w n t := by
        refine ⟨fun v => ⟨v.1, v.2.1, ?_⟩, fun v => ⟨v.1, v.2.1, by have := v.2.2; omega⟩⟩
        have l := v.2.2
        rcases (show ixb x y w t < n ∨ ixb x y w t = n by omega) with r | r
        · exact r
        · have k := ix_til h1 v.1 v.2.1
          rw [r, hT] at k
          exact absurd k z
      rw [same]
      exact ⟨i1, i2⟩
