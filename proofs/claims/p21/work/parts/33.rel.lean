/-! the class's state and the law's rows -/
def Rel (v : SV) (y : Int32) (x : LV) : Prop := (∀ t, t < 48 → x.n t = v.near t) ∧ (∀ t, t < 48 → x.f t = v.far t) ∧ (∀ t, t < 48 → x.u t = v.since t) ∧ (∀ t, t < 48 → x.h t = v.ch t) ∧ (∀ j i, j < v.wm → i < 6 → x.w (6 * j + i) = nI (v.mv j i)) ∧ (∀ k, k < v.kc → x.kn k = v.kp k + 1) ∧ (∀ k, v.kc ≤ k → k < 8 → x.kn k = 0) ∧ x.gg 0 = v.now ∧ x.gg 1 = nI v.la ∧ x.gg 2 = nI v.wm ∧ x.gg 3 = y ∧ ∀ k, k < 4 → x.gg (4 + k) = v.sc k
def Inw (v : SV) (T : Nat) : Prop := v.wm ≤ 4 ∧ v.kc ≤ 8 ∧ (∀ j, j < v.wm → MOK (v.mv j) ∧ 1 ≤ v.mv j 2) ∧ v.la < 48 ∧ (∀ t, t < 48 → ∃ k, k < 256 ∧ v.near t = nI k) ∧ (∀ t, t < 48 → ∃ k, k < 2000 ∧ v.far t = nI k) ∧ (∀ t, t < 48 → ∃ k, k < 256 ∧ v.ch t = nI k) ∧ (∀ k, k < v.kc → ∃ j, j < 256 ∧ v.kp k = nI j) ∧ (∃ N, N ≤ T ∧ v.now = nI N ∧ ∀ t, t < 48 → v.since t = -1 ∨ ∃ k, k ≤ N ∧ v.since t = nI k) ∧ T < 2 ^ 20
def Inv (v : SV) (T : Nat) : Prop := Inw v T ∧ ∀ t, t < 48 → (v.since t = -1 ↔ v.near t = v.far t)
theorem inv_ge {v : SV} {T t : Nat} (h : Inw v T) (ht : t < 48) : 0 ≤ v.since t ↔ ¬ v.since t = -1 := by
  obtain ⟨-, -, -, -, -, -, -, -, ⟨N, n1, n2, n3⟩, hT⟩ := h
  rcases n3 t ht with z | ⟨k, k1, k2⟩
  · rw [z]
    exact ⟨fun q => absurd q (by decide), fun q => absurd rfl q⟩
  · rw [k2]
    exact ⟨fun _ => nI_m1 (by omega), fun _ => nI_pos' (by omega)⟩
theorem nu_at (u : SV) {t : Nat} (ht : t < 48) : (nuV u).since t = if u.near t = u.far t then -1 else if u.since t = -1 then u.now else u.since t := fz_to_lt ht
theorem nc_at (u : SV) {t : Nat} (ht : t < 48) : (ncV u).ch t = if u.near t = u.before t then u.ch t else u.ch t ||| 1 := fz_to_lt ht
theorem inv_nu {u : SV} {T : Nat} (h : Inw u T) : Inv (nuV u) T := by
  obtain ⟨h1, h2, h3, h4, h5, h6, h7, h8, ⟨N, n1, n2, n3⟩, hT⟩ := h
  refine ⟨⟨h1, h2, h3, h4, h5, h6, h7, h8, ⟨N, n1, n2, fun t ht => ?_⟩, hT⟩, fun t ht => ?_⟩
  · rw [nu_at u ht]
    by_cases a : u.near t = u.far t
    · rw [if_pos a]; exact Or.inl rfl
    · rw [if_neg a]
      by_cases b : u.since t = -1
      · rw [if_pos b]; exact Or.inr ⟨N, Nat.le_refl _, n2⟩
      · rw [if_neg b]; exact n3 t ht
  · rw [nu_at u ht]
    show _ ↔ u.near t = u.far t
    by_cases a : u.near t = u.far t
    · rw [if_pos a]; exact ⟨fun _ => a, fun _ => rfl⟩
    · rw [if_neg a]
      by_cases b : u.since t = -1
      · rw [if_pos b, n2]; exact ⟨fun z => absurd z (nI_m1 (by omega)), fun z => absurd z a⟩
      · rw [if_neg b]; exact ⟨fun z => absurd z b, fun z => absurd z a⟩
theorem inw_nc {u : SV} {T : Nat} (h : Inw u T) : Inw (ncV u) T := by
  obtain ⟨h1, h2, h3, h4, h5, h6, h7, h8, h9, hT⟩ := h
  refine ⟨h1, h2, h3, h4, h5, h6, fun t ht => ?_, h8, h9, hT⟩
  rw [nc_at u ht]
  obtain ⟨k, hk, e⟩ := h7 t ht
  by_cases a : u.near t = u.before t
  · rw [if_pos a]; exact ⟨k, hk, e⟩
  · rw [if_neg a, e]
    obtain ⟨o1, o2⟩ := or_all ⟨k, hk⟩
    exact ⟨k ||| 1, o2, o1⟩
theorem inw_up {v : SV} {T S : Nat} (h : Inw v T) (hTS : T ≤ S) (hS : S < 2 ^ 20) : Inw v S := by
  obtain ⟨h1, h2, h3, h4, h5, h6, h7, h8, ⟨N, n1, n2, n3⟩, hT⟩ := h
  exact ⟨h1, h2, h3, h4, h5, h6, h7, h8, ⟨N, by omega, n2, n3⟩, hS⟩
theorem inv_up {v : SV} {T S : Nat} (h : Inv v T) (hTS : T ≤ S) (hS : S < 2 ^ 20) : Inv v S := ⟨inw_up h.1 hTS hS, h.2⟩
theorem inv_sok {v : SV} {T : Nat} (h : Inw v T) : SOK v := ⟨h.1, h.2.1, fun j hj => (h.2.2.1 j hj).1⟩
/-- a tile's time, compared and drawn by the law -/
def luF (x : LV) (t : Nat) (q : Int32) : Int32 := if q = x.f t then -1 else if 0 ≤ x.u t then x.u t else x.gg 0
theorem lkV_eq (x : LV) (t : Nat) : lkV x t = x.uS (upd x.u t (luF x t (x.n t))) := by
  unfold lkV luF
  by_cases a : x.n t = x.f t
  · rw [if_pos a, if_pos a]
  · rw [if_neg a, if_neg a]
    by_cases b : 0 ≤ x.u t
    · rw [if_pos b, if_pos b, upd_id]
      rfl
    · rw [if_neg b, if_neg b]
theorem drH_eq (x : LV) (t : Nat) (q : Int32) : drH x t q = x.hS (upd x.h t (if x.n t = q then x.h t else x.h t ||| 1)) := by
  unfold drH
  by_cases a : x.n t = q
  · rw [if_pos a, if_pos a, upd_id]
    rfl
  · rw [if_neg a, if_neg a]
theorem drV_eq (x : LV) (t : Nat) (q : Int32) : drV x t q = LV.mk9 (upd x.n t q) x.f (upd x.u t (luF x t q)) (upd x.h t (if x.n t = q then x.h t else x.h t ||| 1)) x.w x.kn x.gg := by
  unfold drV
  rw [lkV_eq]
  unfold drN
  rw [drH_eq]
  show LV.mk9 (upd x.n t q) x.f (upd x.u t (if upd x.n t q t = x.f t then -1 else if 0 ≤ x.u t then x.u t else x.gg 0)) (upd x.h t (if x.n t = q then x.h t else x.h t ||| 1)) x.w x.kn x.gg = _
  rw [pk_us]
  rfl
/-- all tiles compared -/
def lkN (x : LV) : Nat → LV
  | 0 => x
  | k + 1 => lkV (lkN x k) k
theorem lkN_eq (x : LV) : ∀ k, lkN x k = x.uS (fz_to (fun t => luF x t (x.n t)) x.u k) := by
  intro k
  induction k with
  | zero => rw [fz_to_0]; rfl
  | succ k ih =>
    show lkV (lkN x k) k = _
    rw [ih, lkV_eq]
    have e : luF (x.uS (fz_to (fun t => luF x t (x.n t)) x.u k)) k (x.n k) = luF x k (x.n k) := by
      show (if x.n k = x.f k then -1 else if 0 ≤ fz_to (fun t => luF x t (x.n t)) x.u k k then fz_to (fun t => luF x t (x.n t)) x.u k k else x.gg 0) = _
      rw [fz_to_ge (Nat.le_refl _)]
      rfl
    show x.uS (upd (fz_to (fun t => luF x t (x.n t)) x.u k) k (luF (x.uS (fz_to (fun t => luF x t (x.n t)) x.u k)) k (x.n k))) = _
    rw [e, fz_to_s (fun t => luF x t (x.n t)) x.u k rfl]
/-- a block is filled -/
def dfl (x : LV) (a b w : Nat) (q : Int32) : Nat → LV
  | 0 => x
  | n + 1 => drV (dfl x a b w q n) (8 * (b + n / w) + a + n % w) q
theorem dfl_keep (x : LV) (a b w : Nat) (q : Int32) : ∀ n, (dfl x a b w q n).f = x.f ∧ (dfl x a b w q n).w = x.w ∧ (dfl x a b w q n).kn = x.kn ∧ (dfl x a b w q n).gg = x.gg := by
  intro n
  induction n with
  | zero => exact ⟨rfl, rfl, rfl, rfl⟩
  | succ n ih =>
    have e : dfl x a b w q (n + 1) = drV (dfl x a b w q n) (8 * (b + n / w) + a + n % w) q := rfl
    rw [e, drV_eq]
    exact ih
theorem dfl_at (x : LV) {a b w : Nat} (q : Int32) (h1 : 1 ≤ w) (hw : a + w ≤ 8) : ∀ n t, (vis a b w n t → (dfl x a b w q n).n t = q ∧ (dfl x a b w q n).h t = (if x.n t = q then x.h t else x.h t ||| 1) ∧ (dfl x a b w q n).u t = luF x t q) ∧ (¬ vis a b w n t → (dfl x a b w q n).n t = x.n t ∧ (dfl x a b w q n).h t = x.h t ∧ (dfl x a b w q n).u t = x.u t) := by
  intro n
  induction n with
  | zero => intro t; exact ⟨fun h => absurd h.2.2 (Nat.not_lt_zero _), fun _ => ⟨rfl, rfl, rfl⟩⟩
  | succ n ih =>
    intro t
    obtain ⟨i1, i2⟩ := ih t
    obtain ⟨k1, -, -, k2⟩ := dfl_keep x a b w q n
    obtain ⟨t1, t2, t3⟩ := til_ix (y := b) (n := n) h1 hw
    have e : dfl x a b w q (n + 1) = drV (dfl x a b w q n) (8 * (b + n / w) + a + n % w) q := rfl
    rw [e, drV_eq]
    generalize hM : dfl x a b w q n = M at *
    generalize hT : 8 * (b + n / w) + a + n % w = D at *
    show (_ → upd M.n D q t = q ∧ upd M.h D (if M.n D = q then M.h D else M.h D ||| 1) t = _ ∧ upd M.u D (if q = M.f D then -1 else if 0 ≤ M.u D then M.u D else M.gg 0) t = _) ∧ (_ → upd M.n D q t = _ ∧ upd M.h D (if M.n D = q then M.h D else M.h D ||| 1) t = _ ∧ upd M.u D (if q = M.f D then -1 else if 0 ≤ M.u D then M.u D else M.gg 0) t = _)
    by_cases z : t = D
    · have nv : ¬ vis a b w n t := fun v => by
        have := v.2.2
        rw [z, t3] at this
        omega
      obtain ⟨a1, a2, a3⟩ := i2 nv
      rw [z] at a1 a2 a3 ⊢
      rw [pk_us, pk_us, pk_us, a1, a2, a3, k1, k2]
      exact ⟨fun _ => ⟨rfl, rfl, rfl⟩, fun h => absurd ⟨t1, t2, by rw [t3]; omega⟩ h⟩
    · rw [pk_un z, pk_un z, pk_un z]
      have same : vis a b w (n + 1) t ↔ vis a b w n t := by
        refine ⟨fun v => ⟨v.1, v.2.1, ?_⟩, fun v => ⟨v.1, v.2.1, by have := v.2.2; omega⟩⟩
        have l := v.2.2
        rcases (show ixb a b w t < n ∨ ixb a b w t = n by omega) with r | r
        · exact r
        · have k := ix_til h1 v.1 v.2.1
          rw [r, hT] at k
          exact absurd k z
      rw [same]
      exact ⟨i1, i2⟩
/-- all tiles drawn anew -/
def dmv (x : LV) (bef : Nat → Int32) : Nat → LV
  | 0 => x
  | k + 1 => drV (dmv x bef k) k (bef k)
theorem dmv_keep (x : LV) (bef : Nat → Int32) : ∀ n, (dmv x bef n).f = x.f ∧ (dmv x bef n).w = x.w ∧ (dmv x bef n).kn = x.kn ∧ (dmv x bef n).gg = x.gg := by
  intro n
  induction n with
  | zero => exact ⟨rfl, rfl, rfl, rfl⟩
  | succ n ih =>
    have e : dmv x bef (n + 1) = drV (dmv x bef n) n (bef n) := rfl
    rw [e, drV_eq]
    exact ih
theorem dmv_at (x : LV) (bef : Nat → Int32) : ∀ n t, (t < n → (dmv x bef n).n t = bef t ∧ (dmv x bef n).h t = (if x.n t = bef t then x.h t else x.h t ||| 1) ∧ (dmv x bef n).u t = luF x t (bef t)) ∧ (n ≤ t → (dmv x bef n).n t = x.n t ∧ (dmv x bef n).h t = x.h t ∧ (dmv x bef n).u t = x.u t) := by
  intro n
  induction n with
  | zero => intro t; exact ⟨fun h => absurd h (Nat.not_lt_zero _), fun _ => ⟨rfl, rfl, rfl⟩⟩
  | succ n ih =>
    intro t
    obtain ⟨i1, i2⟩ := ih t
    obtain ⟨k1, -, -, k2⟩ := dmv_keep x bef n
    have e : dmv x bef (n + 1) = drV (dmv x bef n) n (bef n) := rfl
    rw [e, drV_eq]
    generalize hM : dmv x bef n = M at *
    show (_ → upd M.n n (bef n) t = _ ∧ upd M.h n (if M.n n = bef n then M.h n else M.h n ||| 1) t = _ ∧ upd M.u n (if bef n = M.f n then -1 else if 0 ≤ M.u n then M.u n else M.gg 0) t = _) ∧ (_ → upd M.n n (bef n) t = _ ∧ upd M.h n (if M.n n = bef n then M.h n else M.h n ||| 1) t = _ ∧ upd M.u n (if bef n = M.f n then -1 else if 0 ≤ M.u n then M.u n else M.gg 0) t = _)
    by_cases z : t = n
    · obtain ⟨a1, a2, a3⟩ := i2 (by omega)
      rw [z] at a1 a2 a3 ⊢
      rw [pk_us, pk_us, pk_us, a1, a2, a3, k1, k2]
      exact ⟨fun _ => ⟨rfl, rfl, rfl⟩, fun h => absurd h (by omega)⟩
    · rw [pk_un z, pk_un z, pk_un z]
      exact ⟨fun h => i1 (by omega), fun h => i2 (by omega)⟩
theorem lu_is {v : SV} {y : Int32} {x : LV} {T t : Nat} (hr : Rel v y x) (hi : Inw v T) (ht : t < 48) (q : Int32) : luF x t q = if q = v.far t then -1 else if v.since t = -1 then v.now else v.since t := by
  obtain ⟨r1, r2, r3, r4, r5, r6, r7, r8, -⟩ := hr
  unfold luF
  rw [r2 t ht, r3 t ht, r8]
  by_cases a : q = v.far t
  · rw [if_pos a, if_pos a]
  · rw [if_neg a, if_neg a]
    have k := inv_ge hi ht
    by_cases b : v.since t = -1
    · rw [if_pos b, if_neg (fun z => (k.mp z) b)]
    · rw [if_neg b, if_pos (k.mpr b)]
