/-! a move told by the reference, tile by tile -/
theorem mtl_rest (m : MV) (f : Nat → Nat) : ∀ n, (mtl m f n).near = m.near ∧ (mtl m f n).time = m.time ∧ (mtl m f n).block = m.block ∧ (mtl m f n).ch = m.ch ∧ (mtl m f n).pics = m.pics ∧ (mtl m f n).known = m.known ∧ (mtl m f n).sent = m.sent ∧ (mtl m f n).used = m.used ∧ (mtl m f n).look = m.look := by
  intro n
  induction n with
  | zero => exact ⟨rfl, rfl, rfl, rfl, rfl, rfl, rfl, rfl, rfl⟩
  | succ n ih => exact ih
theorem mtl_at (m : MV) (f : Nat → Nat) (h1 : 1 ≤ f 2) (hw : f 4 + f 2 ≤ 8) : ∀ n t, (vis (f 4) (f 5) (f 2) n t → (mtl m f n).far t = m.block (ixb (f 4) (f 5) (f 2) t) ∧ (mtl m f n).since t = (if m.block (ixb (f 4) (f 5) (f 2) t) = m.near t then -1 else if m.since t = -1 then m.time else m.since t)) ∧ (¬ vis (f 4) (f 5) (f 2) n t → (mtl m f n).far t = m.far t ∧ (mtl m f n).since t = m.since t) := by
  intro n
  induction n with
  | zero => intro t; exact ⟨fun h => absurd h.2.2 (Nat.not_lt_zero _), fun _ => ⟨rfl, rfl⟩⟩
  | succ n ih =>
    intro t
    obtain ⟨i1, i2⟩ := ih t
    obtain ⟨k1, k2, k3, -⟩ := mtl_rest m f n
    obtain ⟨t1, t2, t3⟩ := til_ix (y := f 5) (n := n) h1 hw
    have sh : 8 * f 5 + f 4 + 8 * (n / f 2) + n % f 2 = 8 * (f 5 + n / f 2) + f 4 + n % f 2 := by omega
    have e : mtl m f (n + 1) = mtf (mtl m f n) (8 * f 5 + f 4 + 8 * (n / f 2) + n % f 2) ((mtl m f n).block n) := rfl
    rw [e, sh, k3]
    generalize hM : mtl m f n = M at *
    generalize hT : 8 * (f 5 + n / f 2) + f 4 + n % f 2 = T at *
    have en : (mtf M T (m.block n)).far t = upd M.far T (m.block n) t := rfl
    have es : (mtf M T (m.block n)).since t = upd M.since T (if upd M.far T (m.block n) T = M.near T then -1 else if M.since T = -1 then M.time else M.since T) t := rfl
    rw [en, es]
    by_cases z : t = T
    · have nv : ¬ vis (f 4) (f 5) (f 2) n t := fun v => by
        have := v.2.2
        rw [z, t3] at this
        omega
      obtain ⟨a1, a2⟩ := i2 nv
      rw [z] at a1 a2 ⊢
      rw [pk_us, pk_us, a2, k1, k2, t3]
      exact ⟨fun _ => ⟨rfl, rfl⟩, fun h => absurd ⟨t1, t2, by rw [t3]; omega⟩ h⟩
    · rw [pk_un z, pk_un z]
      have same : vis (f 4) (f 5) (f 2) (n + 1) t ↔ vis (f 4) (f 5) (f 2) n t := by
        refine ⟨fun v => ⟨v.1, v.2.1, ?_⟩, fun v => ⟨v.1, v.2.1, by have := v.2.2; omega⟩⟩
        have l := v.2.2
        rcases (show ixb (f 4) (f 5) (f 2) t < n ∨ ixb (f 4) (f 5) (f 2) t = n by omega) with r | r
        · exact r
        · have k := ix_til h1 v.1 v.2.1
          rw [r, hT] at k
          exact absurd k z
      rw [same]
      exact ⟨i1, i2⟩
theorem mbV_at (m : MV) (scr : Nat → Int32) {f : Nat → Nat} {n t : Nat} (h1 : 1 ≤ f 2) (c : f 4 ≤ t % 8 ∧ t % 8 < f 4 + f 2) (hn : ixb (f 4) (f 5) (f 2) t < n) : (mbV m scr (8 * f 1 + f 0) (f 2) n).block (ixb (f 4) (f 5) (f 2) t) = scr (srcT f t) := by
  have e : (mbV m scr (8 * f 1 + f 0) (f 2) n).block (ixb (f 4) (f 5) (f 2) t) = fz_to (fun k => scr (8 * f 1 + f 0 + 8 * (k / f 2) + k % f 2)) m.block n (ixb (f 4) (f 5) (f 2) t) := rfl
  rw [e, fz_to_lt hn]
  have hd : t % 8 - f 4 < f 2 := by omega
  have e1 : ixb (f 4) (f 5) (f 2) t / f 2 = t / 8 - f 5 := by
    unfold ixb
    rw [Nat.add_comm, Nat.add_mul_div_right _ _ (by omega), Nat.div_eq_of_lt hd, Nat.zero_add]
  have e2 : ixb (f 4) (f 5) (f 2) t % f 2 = t % 8 - f 4 := by
    unfold ixb
    rw [Nat.add_comm, Nat.add_mul_mod_self_right, Nat.mod_eq_of_lt hd]
  show scr (8 * f 1 + f 0 + 8 * (ixb (f 4) (f 5) (f 2) t / f 2) + ixb (f 4) (f 5) (f 2) t % f 2) = _
  rw [e1, e2]
  unfold srcT
  congr 1
  omega
