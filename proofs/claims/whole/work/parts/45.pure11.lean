/-! what stands in the reference at all times: pictures below 256, a time that isn't negative, since tells what is unlike -/
def Ivm (m : MV) (K : Nat) : Prop := (∀ t, t < 48 → ∃ k, k < 256 ∧ m.near t = nI k) ∧ (∃ k, k ≤ K ∧ m.time = nI k) ∧ (∀ t, t < 48 → (m.since t = -1 ↔ m.far t = m.near t)) ∧ K < 2 ^ 31
theorem ivm_c {m : MV} {K t : Nat} (h1 : ∀ t, t < 48 → ∃ k, k < 256 ∧ m.near t = nI k) (h2 : ∃ k, k ≤ K ∧ m.time = nI k) (h4 : K < 2 ^ 31) (h3 : ∀ i, i < 48 → ¬ i = t → (m.since i = -1 ↔ m.far i = m.near i)) : Ivm (mcV m t) K := by
  refine ⟨h1, h2, fun i hi => ?_, h4⟩
  show upd m.since t _ i = -1 ↔ m.far i = m.near i
  by_cases z : i = t
  · rw [z, pk_us]
    by_cases y : m.far t = m.near t
    · rw [if_pos y]
      exact ⟨fun _ => y, fun _ => rfl⟩
    · rw [if_neg y]
      refine ⟨fun q => ?_, fun q => absurd q y⟩
      by_cases x : m.since t = -1
      · rw [if_pos x] at q
        obtain ⟨k, hk, e⟩ := h2
        rw [e] at q
        exact absurd q (nI_m1 (by omega))
      · rw [if_neg x] at q
        exact absurd q x
  · rw [pk_un z]
    exact h3 i hi z
theorem ivm_d {m : MV} {K t k : Nat} {q : Int32} (h : Ivm m K) (hk : k < 256) (hq : q = nI k) : Ivm (mdV m t q) K := by
  obtain ⟨h1, h2, h3, h4⟩ := h
  have n1 : ∀ i, i < 48 → ∃ k, k < 256 ∧ (mdA m t q).near i = nI k := fun i hi => by
    show ∃ k, k < 256 ∧ upd m.near t q i = nI k
    by_cases z : i = t
    · rw [z, pk_us]; exact ⟨k, hk, hq⟩
    · rw [pk_un z]; exact h1 i hi
  refine ivm_c (m := mdA m t q) n1 h2 h4 (fun i hi z => ?_)
  show m.since i = -1 ↔ m.far i = upd m.near t q i
  rw [pk_un z]
  exact h3 i hi
theorem ivm_f {m : MV} {K t : Nat} {q : Int32} (h : Ivm m K) : Ivm (mtf m t q) K := by
  obtain ⟨h1, h2, h3, h4⟩ := h
  refine ivm_c (m := m.farS (upd m.far t q)) h1 h2 h4 (fun i hi z => ?_)
  show m.since i = -1 ↔ upd m.far t q i = m.near i
  rw [pk_un z]
  exact h3 i hi
theorem ivm_fl {m : MV} {K x y w k : Nat} {q : Int32} (h : Ivm m K) (hk : k < 256) (hq : q = nI k) : ∀ n, Ivm (mfl m x y w q n) K := by
  intro n
  induction n with
  | zero => exact h
  | succ n ih => exact ivm_d ih hk hq
theorem mml_block (m : MV) (x2 y2 w : Nat) : ∀ n, (mml m x2 y2 w n).block = m.block := by
  intro n
  induction n with
  | zero => rfl
  | succ n ih => exact ih
theorem ivm_ml {m : MV} {K x2 y2 w N : Nat} (h : Ivm m K) (hb : ∀ j, j < N → ∃ k, k < 256 ∧ m.block j = nI k) : ∀ n, n ≤ N → Ivm (mml m x2 y2 w n) K := by
  intro n
  induction n with
  | zero => intro _; exact h
  | succ n ih =>
    intro hn
    obtain ⟨k, hk, e⟩ := hb n (by omega)
    exact ivm_d (ih (by omega)) hk (by rw [mml_block]; exact e)
theorem ivm_tl {m : MV} {K : Nat} (h' : Nat → Nat) (h : Ivm m K) : ∀ n, Ivm (mtl m h' n) K := by
  intro n
  induction n with
  | zero => exact h
  | succ n ih => exact ivm_f ih
theorem ro_ne {m : MV} {K t : Nat} (h : Ivm m K) (ht : t < 48) : ¬ mroI m t = m.near t := by
  obtain ⟨k, hk, e⟩ := h.1 t ht
  intro z
  have z : 1000 + m.near t / 16 = m.near t := z
  rw [e] at z
  have d : nI k / nI 16 = nI (k / 16) := pk_div (by omega) (by omega) (by omega)
  have d : nI k / 16 = nI (k / 16) := d
  rw [d] at z
  have a : nI 1000 + nI (k / 16) = nI (1000 + k / 16) := nI_add _ _
  have a : 1000 + nI (k / 16) = nI (1000 + k / 16) := a
  rw [a] at z
  have := (nI_eq (by omega) (by omega)).mp z
  omega
theorem ivm_st {m : MV} {K t : Nat} (h : Ivm m K) (ht : t < 48) (hu : ¬ m.since t = -1) (x : Int32) : Ivm (msR m t x).2 K := by
  have hr := ro_ne h ht
  have hh := h
  obtain ⟨h1, h2, h3, h4⟩ := h
  have a : ∀ w c, Ivm (mpR m t w c x).2 K := by
    intro w c
    unfold mpR
    split
    · exact hh
    · refine ⟨h1, h2, fun i hi => ?_, h4⟩
      show upd m.since t (-1) i = -1 ↔ upd m.far t (m.near t) i = m.near i
      by_cases z : i = t
      · rw [z, pk_us, pk_us]
        exact ⟨fun _ => rfl, fun _ => rfl⟩
      · rw [pk_un z, pk_un z]
        exact h3 i hi
  have b : Ivm (mrR m t x).2 K := by
    unfold mrR
    split
    · exact hh
    · split
      · exact hh
      · refine ⟨h1, h2, fun i hi => ?_, h4⟩
        show m.since i = -1 ↔ upd m.far t (mroI m t) i = m.near i
        by_cases z : i = t
        · rw [z, pk_us]
          exact ⟨fun y => absurd y hu, fun y => absurd y hr⟩
        · rw [pk_un z]
          exact h3 i hi
  unfold msR
  split
  · split
    · exact b
    · exact a _ _
  · exact a _ _
