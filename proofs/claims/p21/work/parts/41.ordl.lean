/-! the law's order of sending, worth by worth -/
def acL (la k : Nat) : Int32 := (nI k - nI k / 8 * 8) - (nI la - nI la / 8 * 8)
def dnL (la k : Nat) : Int32 := nI k / 8 - nI la / 8
def bonL (la k : Nat) : Int32 := if acL la k * acL la k < 2 then (if dnL la k * dnL la k < 2 then 5 else 0) else 0
set_option maxRecDepth 100000 in
theorem bon_all : ∀ a b : Fin 48, bonL a.val b.val = (if lkI a.val b.val = 0 then 0 else 5) := by decide +kernel
def wNv (v : SV) (i : Nat) : Nat := (woI v i).toNatClampNeg
theorem wN_is {v : SV} {T N i : Nat} (hi : Inw v T) (hN : v.now = nI N) (hNT : N ≤ T) (ht : i < 48) (hu : ¬ v.since i = -1) : woI v i = nI (wNv v i) ∧ wNv v i ≤ N + 5 := by
  obtain ⟨-, -, -, -, -, -, -, -, ⟨N', n1, n2, n3⟩, hT⟩ := hi
  have eN : N' = N := (nI_eq (by omega) (by omega)).mp (n2.symm.trans hN)
  subst eN
  rcases n3 i ht with z | ⟨k, k1, k2⟩
  · exact absurd z hu
  · have e : v.now - v.since i = nI (N' - k) := by rw [n2, k2]; exact pk_sub k1
    unfold wNv woI
    by_cases c : lkI v.la i = 0
    · rw [if_pos c, e, nI_clamp (by omega)]
      exact ⟨rfl, by omega⟩
    · have e2 : nI (N' - k) + 5 = nI (N' - k + 5) := nI_add _ 5
      rw [if_neg c, e, e2, nI_clamp (by omega)]
      exact ⟨rfl, by omega⟩
theorem wo_is {v : SV} {y : Int32} {x : LV} {T N i : Nat} (hr : Rel v y x) (hi : Inw v T) (hN : v.now = nI N) (hNT : N ≤ T) (ht : i < 48) (hu : ¬ v.since i = -1) : x.gg 0 - x.u i + bonL v.la i = nI (wNv v i) := by
  rw [← (wN_is hi hN hNT ht hu).1]
  have e : bonL v.la i = (if lkI v.la i = 0 then 0 else 5) := bon_all ⟨v.la, hi.2.2.2.1⟩ ⟨i, ht⟩
  rw [e, hr.2.2.1 i ht, hr.2.2.2.2.2.2.2.1]
  unfold woI
  by_cases c : lkI v.la i = 0
  · rw [if_pos c, if_pos c]; exact Int32.add_zero _
  · rw [if_neg c, if_neg c]
/-- the first n places of o name the tiles that C takes -/
def OrdC (v : SV) (C : Nat → Prop) (n : Nat) (o : Nat → Int32) : Prop := (∀ p, p < n → ∃ i, i < 48 ∧ o p = nI i ∧ unl v i ∧ C i) ∧ (∀ i, i < 48 → unl v i → C i → ∃ p, p < n ∧ o p = nI i) ∧ ∀ p q, p < q → q < n → beh (woI v) (o p).toNatClampNeg (o q).toNatClampNeg
def OuC (v : SV) (V : Nat) : Nat → Prop := fun i => V ≤ wNv v i
def InC (v : SV) (V k : Nat) : Nat → Prop := fun i => V < wNv v i ∨ (wNv v i = V ∧ i < k)
theorem ord_cong {v : SV} {C D : Nat → Prop} {n : Nat} {o : Nat → Int32} (e : ∀ i, i < 48 → unl v i → (C i ↔ D i)) (h : OrdC v C n o) : OrdC v D n o := by
  obtain ⟨h1, h2, h3⟩ := h
  refine ⟨fun p hp => ?_, fun i i1 i2 i3 => h2 i i1 i2 ((e i i1 i2).mpr i3), h3⟩
  obtain ⟨i, i1, i2, i3, i4⟩ := h1 p hp
  exact ⟨i, i1, i2, i3, (e i i1 i3).mp i4⟩
theorem ord_0 {v : SV} {V : Nat} (o : Nat → Int32) (h : ∀ i, i < 48 → unl v i → wNv v i < V) : OrdC v (OuC v V) 0 o :=
  ⟨fun p hp => absurd hp (Nat.not_lt_zero _), fun i i1 i2 i3 => absurd (h i i1 i2) (Nat.not_lt.mpr i3), fun p q _ hq => absurd hq (Nat.not_lt_zero _)⟩
theorem ord_in {v : SV} {V n : Nat} {o : Nat → Int32} (h : OrdC v (OuC v (V + 1)) n o) : OrdC v (InC v V 0) n o :=
  ord_cong (fun i _ _ => ⟨fun z => Or.inl z, fun z => z.elim (fun y => y) (fun y => absurd y.2 (Nat.not_lt_zero _))⟩) h
theorem ord_out {v : SV} {V n : Nat} {o : Nat → Int32} (h : OrdC v (InC v V 48) n o) : OrdC v (OuC v V) n o :=
  ord_cong (fun i i1 _ => ⟨fun z => z.elim (fun y => Nat.le_of_lt y) (fun y => Nat.le_of_eq y.1.symm), fun z => by
    have z : V ≤ wNv v i := z
    rcases (show V < wNv v i ∨ wNv v i = V by omega) with y | y
    · exact Or.inl y
    · exact Or.inr ⟨y, i1⟩⟩) h
theorem ord_skip {v : SV} {V k n : Nat} {o : Nat → Int32} (h : OrdC v (InC v V k) n o) (hk : unl v k → ¬ wNv v k = V) : OrdC v (InC v V (k + 1)) n o :=
  ord_cong (fun i i1 i2 => ⟨fun z => z.elim Or.inl (fun y => Or.inr ⟨y.1, by omega⟩), fun z => z.elim Or.inl (fun y => by
    rcases (show i < k ∨ i = k by omega) with q | q
    · exact Or.inr ⟨y.1, q⟩
    · rw [q] at i2 y; exact absurd y.1 (hk i2))⟩) h
theorem ord_inj {v : SV} {C : Nat → Prop} {n : Nat} {o : Nat → Int32} (h : OrdC v C n o) {p q : Nat} (hp : p < n) (hq : q < n) (e : o p = o q) : p = q := by
  obtain ⟨h1, h2, h3⟩ := h
  rcases (show p = q ∨ p < q ∨ q < p by omega) with z | z | z
  · exact z
  · have k := h3 p q z hq
    rw [e] at k
    exact (beh_no k k).elim
  · have k := h3 q p z hp
    rw [e] at k
    exact (beh_no k k).elim
theorem pig : ∀ (m n : Nat) (f : Nat → Nat), (∀ p, p < n → f p < m) → (∀ p q, p < n → q < n → f p = f q → p = q) → n ≤ m := by
  intro m
  induction m with
  | zero =>
    intro n f h _
    exact Nat.not_lt.mp (fun z => absurd (h 0 z) (Nat.not_lt_zero _))
  | succ m ih =>
    intro n f h1 h2
    rcases (show n = 0 ∨ ∃ k, n = k + 1 from (by
      cases n with
      | zero => exact Or.inl rfl
      | succ n => exact Or.inr ⟨n, rfl⟩)) with z | ⟨k, z⟩
    · omega
    · subst z
      have : k ≤ m := by
        refine ih k (fun p => if f p = m then f k else f p) (fun p hp => ?_) (fun p q hp hq e => ?_)
        · show (if f p = m then f k else f p) < m
          have a := h1 p (by omega)
          have b := h1 k (by omega)
          by_cases c : f p = m
          · rw [if_pos c]
            have : ¬ f k = m := fun y => by
              have := h2 p k (by omega) (by omega) (c.trans y.symm)
              omega
            omega
          · rw [if_neg c]; omega
        · have e : (if f p = m then f k else f p) = (if f q = m then f k else f q) := e
          by_cases c : f p = m
          · by_cases d : f q = m
            · exact h2 p q (by omega) (by omega) (c.trans d.symm)
            · rw [if_pos c, if_neg d] at e
              have := h2 k q (by omega) (by omega) e
              omega
          · by_cases d : f q = m
            · rw [if_neg c, if_pos d] at e
              have := h2 p k (by omega) (by omega) e
              omega
            · rw [if_neg c, if_neg d] at e
              exact h2 p q (by omega) (by omega) e
      omega
theorem ord_put {v : SV} {T N V k n : Nat} {o : Nat → Int32} (hi : Inw v T) (hN : v.now = nI N) (hNT : N ≤ T) (h : OrdC v (InC v V k) n o) (hk : k < 48) (hu : ¬ v.since k = -1) (hw : wNv v k = V) : n < 48 ∧ OrdC v (InC v V (k + 1)) (n + 1) (upd o n (nI k)) := by
  have hT := hi.2.2.2.2.2.2.2.2.2
  obtain ⟨wk1, wk2⟩ := wN_is hi hN hNT hk hu
  obtain ⟨h1, h2, h3⟩ := id h
  have ne : ∀ p, p < n → ¬ o p = nI k := fun p hp z => by
    obtain ⟨i, i1, i2, i3, i4⟩ := h1 p hp
    have : i = k := (nI_eq (by omega) (by omega)).mp (i2.symm.trans z)
    rw [this] at i4
    rcases i4 with a | a
    · omega
    · exact absurd a.2 (Nat.lt_irrefl _)
  have lt : n + 1 ≤ 48 := by
    refine pig 48 (n + 1) (fun p => (upd o n (nI k) p).toNatClampNeg) (fun p hp => ?_) (fun p q hp hq e => ?_)
    · show (upd o n (nI k) p).toNatClampNeg < 48
      by_cases c : p = n
      · rw [c, pk_us, nI_clamp (by omega)]; exact hk
      · obtain ⟨i, i1, i2, -, -⟩ := h1 p (by omega)
        rw [pk_un c, i2, nI_clamp (by omega)]; exact i1
    · have e : (upd o n (nI k) p).toNatClampNeg = (upd o n (nI k) q).toNatClampNeg := e
      by_cases c : p = n
      · by_cases d : q = n
        · omega
        · obtain ⟨i, i1, i2, -, -⟩ := h1 q (by omega)
          rw [c, pk_us, pk_un d, i2, nI_clamp (by omega), nI_clamp (by omega)] at e
          exact absurd (by rw [i2, e]) (ne q (by omega))
      · obtain ⟨i, i1, i2, -, -⟩ := h1 p (by omega)
        by_cases d : q = n
        · rw [d, pk_us, pk_un c, i2, nI_clamp (by omega), nI_clamp (by omega)] at e
          exact absurd (by rw [i2, e]) (ne p (by omega))
        · obtain ⟨j, j1, j2, -, -⟩ := h1 q (by omega)
          rw [pk_un c, pk_un d, i2, j2, nI_clamp (by omega), nI_clamp (by omega)] at e
          exact ord_inj h (by omega) (by omega) (by rw [i2, j2, e])
  refine ⟨by omega, fun p hp => ?_, fun i i1 i2 i3 => ?_, fun p q hpq hq => ?_⟩
  · by_cases c : p = n
    · exact ⟨k, hk, by rw [c, pk_us], hu, Or.inr ⟨hw, by omega⟩⟩
    · obtain ⟨i, i1, i2, i3, i4⟩ := h1 p (by omega)
      exact ⟨i, i1, by rw [pk_un c]; exact i2, i3, i4.elim Or.inl (fun y => Or.inr ⟨y.1, by omega⟩)⟩
  · by_cases c : i = k
    · exact ⟨n, by omega, by rw [pk_us, c]⟩
    · obtain ⟨p, p1, p2⟩ := h2 i i1 i2 (i3.elim Or.inl (fun y => Or.inr ⟨y.1, by omega⟩))
      exact ⟨p, by omega, by rw [pk_un (by omega)]; exact p2⟩
  · by_cases c : q = n
    · obtain ⟨i, i1, i2, i3, i4⟩ := h1 p (by omega)
      rw [c, pk_us, pk_un (by omega), i2, nI_clamp (by omega), nI_clamp (by omega)]
      obtain ⟨wi1, wi2⟩ := wN_is hi hN hNT i1 i3
      unfold beh
      rw [wi1, wk1, hw]
      rcases i4 with a | a
      · exact Or.inl ((nI_ltI (by omega) (by omega)).mpr a)
      · exact Or.inr ⟨by rw [a.1], a.2⟩
    · rw [pk_un c, pk_un (by omega)]
      exact h3 p q hpq (by omega)
theorem ord_end {v : SV} {n : Nat} {o : Nat → Int32} (h : OrdC v (OuC v 0) n o) : srt (woI v) (unl v) o n 48 := by
  obtain ⟨h1, h2, h3⟩ := h
  refine ⟨fun p hp => ?_, fun i i1 i2 => h2 i i1 i2 (Nat.zero_le _), h3⟩
  obtain ⟨i, i1, i2, i3, -⟩ := h1 p hp
  exact ⟨i, i1, i2, i3⟩
/-- what sending leaves as it was -/
theorem sx_keep (x : LV) (k : Nat) (c : Int32) : (sxR x k c).2.n = x.n ∧ (sxR x k c).2.h = x.h ∧ (sxR x k c).2.w = x.w := by
  have A : (sxV x k).n = x.n ∧ (sxV x k).h = x.h ∧ (sxV x k).w = x.w := by
    unfold sxV sxK
    rw [lkV_eq]
    split <;> exact ⟨rfl, rfl, rfl⟩
  unfold sxR
  split
  · exact ⟨rfl, rfl, rfl⟩
  · split
    · exact ⟨rfl, rfl, rfl⟩
    · exact A
theorem snd_keep (x : LV) (o : Nat → Int32) (c : Int32) : ∀ p, (sndL x o c p).2.n = x.n ∧ (sndL x o c p).2.h = x.h ∧ (sndL x o c p).2.w = x.w := by
  intro p
  induction p with
  | zero => exact ⟨rfl, rfl, rfl⟩
  | succ p ih =>
    obtain ⟨k1, k2, k3⟩ := sx_keep (sndL x o c p).2 (o p).toNatClampNeg (sndL x o c p).1
    have e : sndL x o c (p + 1) = ((sndL x o c p).1 - (sxR (sndL x o c p).2 (o p).toNatClampNeg (sndL x o c p).1).1, (sxR (sndL x o c p).2 (o p).toNatClampNeg (sndL x o c p).1).2) := rfl
    rw [e]
    exact ⟨k1.trans ih.1, k2.trans ih.2.1, k3.trans ih.2.2⟩
/-- the law's first move told, as it is walked -/
theorem tn_is (x : LV) (m : Nat → Nat) : (((x.fS (shN m x.f (m 2 * m 3))).uS (fz_to (fun t => luF (x.fS (shN m x.f (m 2 * m 3))) t (x.n t)) x.u 48)).wS (fz_to (fun k => x.w (k + 6)) x.w 18)).ggS (upd (upd x.gg 2 (x.gg 2 - 1)) 4 (upd x.gg 2 (x.gg 2 - 1) 4 + 1)) = tnL x m := by
  rw [pk_un (f := x.gg) (k := 2) (j := 4) (x := x.gg 2 - 1) (by omega)]
  rfl
theorem wt_3 (x : LV) (k : Nat) : wtN x k = 1 ∨ wtN x k = 2 ∨ wtN x k = 3 := by
  unfold wtN
  split
  · exact Or.inl rfl
  · split
    · exact Or.inr (Or.inl rfl)
    · exact Or.inr (Or.inr rfl)
theorem snd_s {x S : LV} {o : Nat → Int32} {c C : Int32} {p t : Nat} (h : sndL x o c p = (C, S)) (ht : (o p).toNatClampNeg = t) : sndL x o c (p + 1) = (C - (sxR S t C).1, (sxR S t C).2) := by
  show ((sndL x o c p).1 - (sxR (sndL x o c p).2 (o p).toNatClampNeg (sndL x o c p).1).1, (sxR (sndL x o c p).2 (o p).toNatClampNeg (sndL x o c p).1).2) = _
  rw [h, ht]
/-- a step's end -/
theorem ps_end {v : SV} {y : Int32} {x S : LV} {T told n : Nat} {b C : Int32} {v' : SV} {o : Nat → Int32} (hE : tlF b v 0 v.wm = (told, v')) (hr : Rel (fgV v' told) y x) (hi : Inv (fgV v' told) T) (hs : (fgV v' told).wm = 0 → srt (woI (fgV v' told)) (unl (fgV v' told)) o n 48) (hz : ¬ (fgV v' told).wm = 0 → n = 0) (hS : sndL x o (b - nI told * 2) n = (C, S)) : Rel (psA v b).2 y S ∧ Inv (psA v b).2 T ∧ b - C = (psA v b).1 := by
  have e1 : tlR v b = (nI told * 2, fgV v' told) := by
    unfold tlR tlV
    rw [hE]
    rfl
  by_cases z : (fgV v' told).wm = 0
  · have z2 : (tlR v b).2.wm = 0 := by rw [e1]; exact z
    rw [ps_1 z2, e1]
    obtain ⟨p1, p2, p3⟩ := rel_sa hr hi (hs z) (fun i _ _ => rfl) (b - nI told * 2)
    rw [hS] at p1 p2
    refine ⟨p2, p3, ?_⟩
    show b - C = nI told * 2 + (saR (fgV v' told) (b - nI told * 2)).1
    rw [p1]
    exact (i_bcd b (nI told * 2) C).symm
  · have z2 : ¬ (tlR v b).2.wm = 0 := by rw [e1]; exact z
    rw [ps_0 z2, e1]
    rw [hz z] at hS
    have hS : (b - nI told * 2, x) = (C, S) := hS
    obtain ⟨hC, hS⟩ := Prod.mk.inj hS
    rw [← hC, ← hS]
    exact ⟨hr, hi, i_bbc b _⟩
