/-! the reference's drawing of a moved block, tile by tile -/
theorem mml_rest (m : MV) (x y w : Nat) : ∀ n, (mml m x y w n).far = m.far ∧ (mml m x y w n).time = m.time ∧ (mml m x y w n).block = m.block ∧ (mml m x y w n).moves = m.moves ∧ (mml m x y w n).mF = m.mF ∧ (mml m x y w n).mT = m.mT ∧ (mml m x y w n).mW = m.mW ∧ (mml m x y w n).mH = m.mH ∧ (mml m x y w n).pics = m.pics ∧ (mml m x y w n).known = m.known ∧ (mml m x y w n).sent = m.sent ∧ (mml m x y w n).used = m.used ∧ (mml m x y w n).look = m.look := by
  intro n
  induction n with
  | zero => exact ⟨rfl, rfl, rfl, rfl, rfl, rfl, rfl, rfl, rfl, rfl, rfl, rfl, rfl⟩
  | succ n ih => exact ih
theorem mml_at (m : MV) {x y w : Nat} (h1 : 1 ≤ w) (hw : x + w ≤ 8) : ∀ n t, (vis x y w n t → (mml m x y w n).near t = m.block (ixb x y w t) ∧ (mml m x y w n).ch t = m.ch t ||| (if m.near t = m.block (ixb x y w t) then 0 else 1) ∧ (mml m x y w n).since t = (if m.far t = m.block (ixb x y w t) then -1 else if m.since t = -1 then m.time else m.since t)) ∧ (¬ vis x y w n t → (mml m x y w n).near t = m.near t ∧ (mml m x y w n).ch t = m.ch t ∧ (mml m x y w n).since t = m.since t) := by
  intro n
  induction n with
  | zero => intro t; exact ⟨fun h => absurd h.2.2 (Nat.not_lt_zero _), fun _ => ⟨rfl, rfl, rfl⟩⟩
  | succ n ih =>
    intro t
    obtain ⟨i1, i2⟩ := ih t
    obtain ⟨k1, k2, k3, -⟩ := mml_rest m x y w n
    obtain ⟨t1, t2, t3⟩ := til_ix (y := y) (n := n) h1 hw
    have e : mml m x y w (n + 1) = mdV (mml m x y w n) (8 * (y + n / w) + x + n % w) ((mml m x y w n).block n) := rfl
    rw [e, k3]
    generalize hM : mml m x y w n = M at *
    generalize hT : 8 * (y + n / w) + x + n % w = T at *
    generalize hq : m.block n = q at *
    have en : (mdV M T q).near t = upd M.near T q t := rfl
    have ec : (mdV M T q).ch t = upd M.ch T (M.ch T ||| (if M.near T = q then 0 else 1)) t := rfl
    have es : (mdV M T q).since t = upd M.since T (if M.far T = upd M.near T q T then -1 else if M.since T = -1 then M.time else M.since T) t := rfl
    rw [en, ec, es]
    by_cases z : t = T
    · have nv : ¬ vis x y w n t := fun v => by
        have := v.2.2
        rw [z, t3] at this
        omega
      obtain ⟨a1, a2, a3⟩ := i2 nv
      rw [z] at a1 a2 a3 ⊢
      rw [pk_us, pk_us, pk_us, a1, a2, a3, k1, k2, t3, hq]
      exact ⟨fun _ => ⟨rfl, rfl, rfl⟩, fun h => absurd ⟨t1, t2, by rw [t3]; omega⟩ h⟩
    · rw [pk_un z, pk_un z, pk_un z]
      have same : vis x y w (n + 1) t ↔ vis x y w n t := by
        refine ⟨fun v => ⟨v.1, v.2.1, ?_⟩, fun v => ⟨v.1, v.2.1, by have := v.2.2; omega⟩⟩
        have l := v.2.2
        rcases (show ixb x y w t < n ∨ ixb x y w t = n by omega) with r | r
        · exact r
        · have k := ix_til h1 v.1 v.2.1
          rw [r, hT] at k
          exact absurd k z
      rw [same]
      exact ⟨i1, i2⟩
