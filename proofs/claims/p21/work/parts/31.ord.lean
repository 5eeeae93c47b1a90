/-! the order of sending: two lists that are sorted by the same worths are the same (the first rows are of whole) -/
theorem i_nlt {a b : Int32} (h : ¬ a < b) : b < a ∨ b = a := by
  rw [Int32.lt_iff_toInt_lt] at h
  by_cases q : b.toInt = a.toInt
  · exact Or.inr (Int32.toInt_inj.mp q)
  · exact Or.inl (by rw [Int32.lt_iff_toInt_lt]; omega)
theorem i_trans {a b c : Int32} (h1 : a < b) (h2 : b < c) : a < c := by
  rw [Int32.lt_iff_toInt_lt] at *
  omega
theorem i_irr {a : Int32} (h : a < a) : False := by
  rw [Int32.lt_iff_toInt_lt] at h
  omega
def beh (worth : Nat → Int32) (j i : Nat) : Prop := worth i < worth j ∨ (worth i = worth j ∧ j < i)
theorem beh_no {worth : Nat → Int32} {i j : Nat} (h1 : beh worth j i) (h2 : beh worth i j) : False := by
  rcases h1 with a | ⟨a, b⟩
  · rcases h2 with c | ⟨c, d⟩
    · exact i_irr (i_trans a c)
    · rw [c] at a; exact i_irr a
  · rcases h2 with c | ⟨c, d⟩
    · rw [a] at c; exact i_irr c
    · omega
theorem beh_tr {worth : Nat → Int32} {i j k : Nat} (h1 : beh worth j i) (h2 : beh worth i k) : beh worth j k := by
  rcases h1 with a | ⟨a, b⟩
  · rcases h2 with c | ⟨c, d⟩
    · exact Or.inl (i_trans c a)
    · exact Or.inl (by rw [c]; exact a)
  · rcases h2 with c | ⟨c, d⟩
    · exact Or.inl (by rw [← a]; exact c)
    · exact Or.inr ⟨c.trans a, by omega⟩
def insA (o : Nat → Int32) (t g p : Nat) : Nat → Int32 := fun j => if j < g then o j else if j = g then nI t else if j ≤ p then o (j - 1) else o j
theorem insF_is (wv : Nat → Int32) (t : Nat) : ∀ (p : Nat) (o : Nat → Int32), ∃ g, g ≤ p ∧ insF wv t p o = insA o t g p ∧ (∀ j, g ≤ j → j < p → wv (o j).toNatClampNeg < wv t) ∧ (0 < g → ¬ wv (o (g - 1)).toNatClampNeg < wv t) := by
  intro p
  induction p with
  | zero =>
    intro o
    refine ⟨0, Nat.le_refl _, ?_, fun j h1 h2 => absurd h2 (Nat.not_lt_zero _), fun h => absurd h (Nat.lt_irrefl _)⟩
    funext j
    show upd o 0 (nI t) j = _
    unfold insA
    rw [if_neg (Nat.not_lt_zero _)]
    by_cases z : j = 0
    · rw [z, pk_us, if_pos rfl]
    · rw [pk_un z, if_neg z, if_neg (by omega)]
  | succ p ih =>
    intro o
    by_cases h : wv (o p).toNatClampNeg < wv t
    · obtain ⟨g, h1, h2, h3, h4⟩ := ih (upd o (p + 1) (o p))
      refine ⟨g, by omega, ?_, fun j j1 j2 => ?_, fun g0 => ?_⟩
      · show (if wv (o p).toNatClampNeg < wv t then insF wv t p (upd o (p + 1) (o p)) else upd o (p + 1) (nI t)) = _
        rw [if_pos h, h2]
        funext j
        unfold insA
        by_cases a : j < g
        · rw [if_pos a, if_pos a, pk_un (by omega)]
        · rw [if_neg a, if_neg a]
          by_cases b : j = g
          · rw [if_pos b, if_pos b]
          · rw [if_neg b, if_neg b]
            by_cases c : j ≤ p
            · rw [if_pos c, if_pos (show j ≤ p + 1 by omega), pk_un (by omega)]
            · rw [if_neg c]
              by_cases d : j = p + 1
              · rw [if_pos (show j ≤ p + 1 by omega), d, pk_us]
                rfl
              · rw [if_neg (show ¬ j ≤ p + 1 by omega), pk_un d]
      · rcases (show j < p ∨ j = p by omega) with q | q
        · have k := h3 j j1 q
          rw [pk_un (by omega)] at k
          exact k
        · rw [q]; exact h
      · have k := h4 g0
        rw [pk_un (by omega)] at k
        exact k
    · refine ⟨p + 1, Nat.le_refl _, ?_, fun j j1 j2 => by omega, fun _ => h⟩
      show (if wv (o p).toNatClampNeg < wv t then insF wv t p (upd o (p + 1) (o p)) else upd o (p + 1) (nI t)) = _
      rw [if_neg h]
      funext j
      unfold insA
      by_cases z : j = p + 1
      · rw [z, pk_us, if_neg (Nat.lt_irrefl _), if_pos rfl]
      · rw [pk_un z]
        by_cases a : j < p + 1
        · rw [if_pos a]
        · rw [if_neg a, if_neg z, if_neg (by omega)]
def srt (w : Nat → Int32) (U : Nat → Prop) (o : Nat → Int32) (n t : Nat) : Prop := (∀ p, p < n → ∃ i, i < t ∧ o p = nI i ∧ U i) ∧ (∀ i, i < t → U i → ∃ p, p < n ∧ o p = nI i) ∧ ∀ p q, p < q → q < n → beh w (o p).toNatClampNeg (o q).toNatClampNeg
theorem srt_skip {w : Nat → Int32} {U : Nat → Prop} {o : Nat → Int32} {n t : Nat} (h : srt w U o n t) (hu : ¬ U t) : srt w U o n (t + 1) := by
  obtain ⟨h1, h2, h3⟩ := h
  refine ⟨fun p hp => ?_, fun i hi ui => ?_, h3⟩
  · obtain ⟨i, a, b, c⟩ := h1 p hp
    exact ⟨i, by omega, b, c⟩
  · rcases (show i < t ∨ i = t by omega) with q | q
    · exact h2 i q ui
    · rw [q] at ui; exact absurd ui hu
theorem srt_put {w : Nat → Int32} {U : Nat → Prop} {o : Nat → Int32} {n t : Nat} (ht : t < 48) (h : srt w U o n t) (hu : U t) : srt w U (insF w t n o) (n + 1) (t + 1) := by
  obtain ⟨h1, h2, h3⟩ := h
  obtain ⟨g, g1, g2, g3, g4⟩ := insF_is w t n o
  have et : (nI t).toNatClampNeg = t := nI_clamp (by omega)
  have a1 : ∀ j, j < g → insA o t g n j = o j := fun j z => if_pos z
  have a2 : insA o t g n g = nI t := by
    unfold insA
    rw [if_neg (Nat.lt_irrefl _), if_pos rfl]
  have a3 : ∀ j, g < j → j ≤ n → insA o t g n j = o (j - 1) := fun j z y => by
    unfold insA
    rw [if_neg (by omega), if_neg (by omega), if_pos y]
  have bt : ∀ j, j < n → (o j).toNatClampNeg < t := fun j hj => by
    obtain ⟨i, b1, b2, b3⟩ := h1 j hj
    rw [b2, nI_clamp (by omega)]
    exact b1
  have up : ∀ j, j < g → beh w (o j).toNatClampNeg t := fun j hj => by
    have e : beh w (o (g - 1)).toNatClampNeg t := by
      rcases i_nlt (g4 (by omega)) with q | q
      · exact Or.inl q
      · exact Or.inr ⟨q, bt _ (by omega)⟩
    rcases (show j = g - 1 ∨ j < g - 1 by omega) with q | q
    · rw [q]; exact e
    · exact beh_tr (h3 j (g - 1) q (by omega)) e
  rw [g2]
  refine ⟨fun p hp => ?_, fun i hi ui => ?_, fun p q hpq hq => ?_⟩
  · rcases (show p < g ∨ p = g ∨ g < p by omega) with z | z | z
    · obtain ⟨i, b1, b2, b3⟩ := h1 p (by omega)
      exact ⟨i, by omega, by rw [a1 p z]; exact b2, b3⟩
    · exact ⟨t, by omega, by rw [z]; exact a2, hu⟩
    · obtain ⟨i, b1, b2, b3⟩ := h1 (p - 1) (by omega)
      exact ⟨i, by omega, by rw [a3 p z (by omega)]; exact b2, b3⟩
  · rcases (show i < t ∨ i = t by omega) with z | z
    · obtain ⟨p, b1, b2⟩ := h2 i z ui
      by_cases y : p < g
      · exact ⟨p, by omega, by rw [a1 p y]; exact b2⟩
      · exact ⟨p + 1, by omega, by rw [a3 (p + 1) (by omega) (by omega)]; exact b2⟩
    · exact ⟨g, by omega, by rw [z]; exact a2⟩
  · rcases (show q < g ∨ q = g ∨ g < q by omega) with z | z | z
    · rw [a1 p (by omega), a1 q z]
      exact h3 p q hpq (by omega)
    · rw [z, a2, et, a1 p (by omega)]
      exact up p (by omega)
    · rw [a3 q z (by omega)]
      rcases (show p < g ∨ p = g ∨ g < p by omega) with y | y | y
      · rw [a1 p y]
        exact beh_tr (up p y) (Or.inl (g3 (q - 1) (by omega) (by omega)))
      · rw [y, a2, et]
        exact Or.inl (g3 (q - 1) (by omega) (by omega))
      · rw [a3 p y (by omega)]
        exact h3 (p - 1) (q - 1) (by omega) (by omega)
theorem srt_cong {w w' : Nat → Int32} {U : Nat → Prop} {o : Nat → Int32} {n t : Nat} (ht : t ≤ 48) (e : ∀ i, i < t → w i = w' i) (h : srt w U o n t) : srt w' U o n t := by
  obtain ⟨h1, h2, h3⟩ := h
  have bt : ∀ j, j < n → (o j).toNatClampNeg < t := fun j hj => by
    obtain ⟨i, b1, b2, b3⟩ := h1 j hj
    rw [b2, nI_clamp (by omega)]
    exact b1
  refine ⟨h1, h2, fun p q hpq hq => ?_⟩
  have k := h3 p q hpq hq
  unfold beh at k ⊢
  rw [e _ (bt p (by omega)), e _ (bt q hq)] at k
  exact k
abbrev unl (v : SV) : Nat → Prop := fun i => ¬ v.since i = -1
theorem piF_so (v : SV) : ∀ t, t ≤ 48 → srt (piF v t).2.1 (unl v) (piF v t).2.2 (piF v t).1 t ∧ (piF v t).1 ≤ t ∧ ∀ i, i < t → ¬ v.since i = -1 → (piF v t).2.1 i = woI v i := by
  intro t
  induction t with
  | zero => intro _; exact ⟨⟨fun p hp => absurd hp (Nat.not_lt_zero _), fun i hi => absurd hi (Nat.not_lt_zero _), fun p q _ hq => absurd hq (Nat.not_lt_zero _)⟩, Nat.le_refl _, fun i hi => absurd hi (Nat.not_lt_zero _)⟩
  | succ t ih =>
    intro ht
    obtain ⟨h1, h2, h3⟩ := ih (by omega)
    by_cases z : v.since t = -1
    · have e : piF v (t + 1) = piF v t := if_pos z
      rw [e]
      refine ⟨srt_skip h1 (fun q => q z), by omega, fun i hi ui => ?_⟩
      rcases (show i < t ∨ i = t by omega) with q | q
      · exact h3 i q ui
      · rw [q] at ui; exact absurd z ui
    · have e : piF v (t + 1) = ((piF v t).1 + 1, upd (piF v t).2.1 t (woI v t), insF (upd (piF v t).2.1 t (woI v t)) t (piF v t).1 (piF v t).2.2) := if_neg z
      rw [e]
      refine ⟨srt_put (by omega) (srt_cong (by omega) (fun i hi => (pk_un (by omega)).symm) h1) z, by show (piF v t).1 + 1 ≤ t + 1; omega, fun i hi ui => ?_⟩
      show upd (piF v t).2.1 t (woI v t) i = woI v i
      by_cases q : i = t
      · rw [q, pk_us]
      · rw [pk_un q]
        exact h3 i (by omega) ui
theorem stR_ord (v : SV) (t : Nat) (b : Int32) : (stR v t b).2.order = v.order ∧ (stR v t b).2.worths = v.worths := by
  have sp : ∀ w c, (spR v t w c b).2.order = v.order ∧ (spR v t w c b).2.worths = v.worths := by
    intro w c
    unfold spR
    split <;> exact ⟨rfl, rfl⟩
  have sr : (srR v t b).2.order = v.order ∧ (srR v t b).2.worths = v.worths := by
    unfold srR
    split
    · exact ⟨rfl, rfl⟩
    · split <;> exact ⟨rfl, rfl⟩
  unfold stR
  split
  · split
    · exact sr
    · exact sp _ _
  · exact sp _ _
theorem srt_cong2 {w w' : Nat → Int32} {U : Nat → Prop} {o : Nat → Int32} {n t : Nat} (ht : t ≤ 48) (e : ∀ i, i < t → U i → w i = w' i) (h : srt w U o n t) : srt w' U o n t := by
  obtain ⟨h1, h2, h3⟩ := h
  have bt : ∀ j, j < n → w (o j).toNatClampNeg = w' (o j).toNatClampNeg := fun j hj => by
    obtain ⟨i, b1, b2, b3⟩ := h1 j hj
    rw [b2, nI_clamp (by omega)]
    exact e i b1 b3
  refine ⟨h1, h2, fun p q hpq hq => ?_⟩
  have k := h3 p q hpq hq
  unfold beh at k ⊢
  rw [bt p (by omega), bt q hq] at k
  exact k
theorem srt_inj {w : Nat → Int32} {U : Nat → Prop} {o : Nat → Int32} {n t : Nat} (h : srt w U o n t) {p q : Nat} (hp : p < n) (hq : q < n) (e : o p = o q) : p = q := by
  obtain ⟨h1, h2, h3⟩ := h
  rcases (show p = q ∨ p < q ∨ q < p by omega) with z | z | z
  · exact z
  · have k := h3 p q z hq
    rw [e] at k
    exact (beh_no k k).elim
  · have k := h3 q p z hp
    rw [e] at k
    exact (beh_no k k).elim
theorem srt_same {w : Nat → Int32} {U : Nat → Prop} {o o' : Nat → Int32} {n n' t : Nat} (ht : t ≤ 48) (h : srt w U o n t) (h' : srt w U o' n' t) : ∀ p, p < n → p < n' ∧ o p = o' p := by
  have key : ∀ k p, p < k → p < n → p < n' ∧ o p = o' p := by
    intro k
    induction k with
    | zero => intro p hp; omega
    | succ k ih =>
      intro p hp hn
      obtain ⟨i, i1, i2, i3⟩ := h.1 p hn
      obtain ⟨q, q1, q2⟩ := h'.2.1 i i1 i3
      have hpq : p ≤ q := Nat.not_lt.mp (fun z => by
        obtain ⟨-, e⟩ := ih q (by omega) (by omega)
        have := srt_inj h (show q < n by omega) hn (by rw [e, q2, i2])
        omega)
      rcases (show p = q ∨ p < q by omega) with z | z
      · exact ⟨by omega, by rw [z, q2, ← i2, z]⟩
      · obtain ⟨j, j1, j2, j3⟩ := h'.1 p (by omega)
        obtain ⟨r, r1, r2⟩ := h.2.1 j j1 j3
        have hpr : p ≤ r := Nat.not_lt.mp (fun y => by
          obtain ⟨y1, e⟩ := ih r (by omega) (by omega)
          have := srt_inj h' y1 (show p < n' by omega) (by rw [← e, r2, j2])
          omega)
        rcases (show p = r ∨ p < r by omega) with y | y
        · exact ⟨by omega, by rw [y, r2, ← j2, ← y]⟩
        · have k1 := h.2.2 p r y r1
          have k2 := h'.2.2 p q z q1
          rw [i2, r2] at k1
          rw [j2, q2] at k2
          exact (beh_no k1 k2).elim
  exact fun p hp => key (p + 1) p (by omega) hp
theorem srt_num {w : Nat → Int32} {U : Nat → Prop} {o o' : Nat → Int32} {n n' t : Nat} (ht : t ≤ 48) (h : srt w U o n t) (h' : srt w U o' n' t) : n = n' := by
  rcases (show n = n' ∨ n < n' ∨ n' < n by omega) with z | z | z
  · exact z
  · have k := (srt_same ht h' h n z).1
    omega
  · have k := (srt_same ht h h' n' z).1
    omega
