/-! a tile is put in its place -/
def insA (o : Nat → Int32) (t g p : Nat) : Nat → Int32 := fun j => if j < g then o j else if j = g then nI t else if j ≤ p then o (j - 1) else o j
theorem insF_is (wv : Nat → Int32) (t : Nat) : ∀ (p : Nat) (o : Nat → Int32), ∃ g, g ≤ p ∧ insF wv t p o = insA o t g p ∧ (∀ j, g ≤ j → j < p → wv (o j).toNatClampNeg < wv t) ∧ (0 < g → ¬ wv (o (g - 1)).toNatClampNeg < wv t) := by
  intro p
  induction p with
  | zero =>
    intro o
    refine ⟨0, Nat.le_refl _, ?_, fun j h1 h2 => absurd h2 (Nat.not_lt_zero _), fun h => absurd h (Nat.lt_irrefl _)⟩
    funext j
    show upd o 0 (nI t) j = _
    unfold insA
    rw [if_neg (Nat.not_lt_zero _)]
    by_cases z : j = 0
    · rw [z, pk_us, if_pos rfl]
    · rw [pk_un z, if_neg z, if_neg (by omega)]
  | succ p ih =>
    intro o
    by_cases h : wv (o p).toNatClampNeg < wv t
    · obtain ⟨g, h1, h2, h3, h4⟩ := ih (upd o (p + 1) (o p))
      refine ⟨g, by omega, ?_, fun j j1 j2 => ?_, fun g0 => ?_⟩
      · show (if wv (o p).toNatClampNeg < wv t then insF wv t p (upd o (p + 1) (o p)) else upd o (p + 1) (nI t)) = _
        rw [if_pos h, h2]
        funext j
        unfold insA
        by_cases a : j < g
        · rw [if_pos a, if_pos a, pk_un (by omega)]
        · rw [if_neg a, if_neg a]
          by_cases b : j = g
          · rw [if_pos b, if_pos b]
          · rw [if_neg b, if_neg b]
            by_cases c : j ≤ p
            · rw [if_pos c, if_pos (show j ≤ p + 1 by omega), pk_un (by omega)]
            · rw [if_neg c]
              by_cases d : j = p + 1
              · rw [if_pos (show j ≤ p + 1 by omega), d, pk_us]
                rfl
              · rw [if_neg (show ¬ j ≤ p + 1 by omega), pk_un d]
      · rcases (show j < p ∨ j = p by omega) with q | q
        · have k := h3 j j1 q
          rw [pk_un (by omega)] at k
          exact k
        · rw [q]; exact h
      · have k := h4 g0
        rw [pk_un (by omega)] at k
        exact k
    · refine ⟨p + 1, Nat.le_refl _, ?_, fun j j1 j2 => by omega, fun _ => h⟩
      show (if wv (o p).toNatClampNeg < wv t then insF wv t p (upd o (p + 1) (o p)) else upd o (p + 1) (nI t)) = _
      rw [if_neg h]
      funext j
      unfold insA
      by_cases z : j = p + 1
      · rw [z, pk_us, if_neg (Nat.lt_irrefl _), if_pos rfl]
      · rw [pk_un z]
        by_cases a : j < p + 1
        · rw [if_pos a]
        · rw [if_neg a, if_neg z, if_neg (by omega)]
/-- the first n places of o name the tiles of U below t, each once, none behind a later one -/
def srt (w : Nat → Int32) (U : Nat → Prop) (o : Nat → Int32) (n t : Nat) : Prop := (∀ p, p < n → ∃ i, i < t ∧ o p = nI i ∧ U i) ∧ (∀ i, i < t → U i → ∃ p, p < n ∧ o p = nI i) ∧ ∀ p q, p < q → q < n → beh w (o p).toNatClampNeg (o q).toNatClampNeg
theorem srt_skip {w : Nat → Int32} {U : Nat → Prop} {o : Nat → Int32} {n t : Nat} (h : srt w U o n t) (hu : ¬ U t) : srt w U o n (t + 1) := by
  obtain ⟨h1, h2, h3⟩ := h
  refine ⟨fun p hp => ?_, fun i hi ui => ?_, h3⟩
  · obtain ⟨i, a, b, c⟩ := h1 p hp
    exact ⟨i, by omega, b, c⟩
  · rcases (show i < t ∨ i = t by omega) with q | q
    · exact h2 i q ui
    · rw [q] at ui; exact absurd ui hu
theorem srt_put {w : Nat → Int32} {U : Nat → Prop} {o : Nat → Int32} {n t : Nat} (ht : t < 48) (h : srt w U o n t) (hu : U t) : srt w U (insF w t n o) (n + 1) (t + 1) := by
  obtain ⟨h1, h2, h3⟩ := h
  obtain ⟨g, g1, g2, g3, g4⟩ := insF_is w t n o
  have et : (nI t).toNatClampNeg = t := nI_clamp (by omega)
  have a1 : ∀ j, j < g → insA o t g n j = o j := fun j z => if_pos z
  have a2 : insA o t g n g = nI t := by
    unfold insA
    rw [if_neg (Nat.lt_irrefl _), if_pos rfl]
  have a3 : ∀ j, g < j → j ≤ n → insA o t g n j = o (j - 1) := fun j z y => by
    unfold insA
    rw [if_neg (by omega), if_neg (by omega), if_pos y]
  have bt : ∀ j, j < n → (o j).toNatClampNeg < t := fun j hj => by
    obtain ⟨i, b1, b2, b3⟩ := h1 j hj
    rw [b2, nI_clamp (by omega)]
    exact b1
  have up : ∀ j, j < g → beh w (o j).toNatClampNeg t := fun j hj => by
    have e : beh w (o (g - 1)).toNatClampNeg t := by
      rcases i_nlt (g4 (by omega)) with q | q
      · exact Or.inl q
      · exact Or.inr ⟨q, bt _ (by omega)⟩
    rcases (show j = g - 1 ∨ j < g - 1 by omega) with q | q
    · rw [q]; exact e
    · exact beh_tr (h3 j (g - 1) q (by omega)) e
  rw [g2]
  refine ⟨fun p hp => ?_, fun i hi ui => ?_, fun p q hpq hq => ?_⟩
  · rcases (show p < g ∨ p = g ∨ g < p by omega) with z | z | z
    · obtain ⟨i, b1, b2, b3⟩ := h1 p (by omega)
      exact ⟨i, by omega, by rw [a1 p z]; exact b2, b3⟩
    · exact ⟨t, by omega, by rw [z]; exact a2, hu⟩
    · obtain ⟨i, b1, b2, b3⟩ := h1 (p - 1) (by omega)
      exact ⟨i, by omega, by rw [a3 p z (by omega)]; exact b2, b3⟩
  · rcases (show i < t ∨ i = t by omega) with z | z
    · obtain ⟨p, b1, b2⟩ := h2 i z ui
      by_cases y : p < g
      · exact ⟨p, by omega, by rw [a1 p y]; exact b2⟩
      · exact ⟨p + 1, by omega, by rw [a3 (p + 1) (by omega) (by omega)]; exact b2⟩
    · exact ⟨g, by omega, by rw [z]; exact a2⟩
  · rcases (show q < g ∨ q = g ∨ g < q by omega) with z | z | z
    · rw [a1 p (by omega), a1 q z]
      exact h3 p q hpq (by omega)
    · rw [z, a2, et, a1 p (by omega)]
      exact up p (by omega)
    · rw [a3 q z (by omega)]
      rcases (show p < g ∨ p = g ∨ g < p by omega) with y | y | y
      · rw [a1 p y]
        exact beh_tr (up p y) (Or.inl (g3 (q - 1) (by omega) (by omega)))
      · rw [y, a2, et]
        exact Or.inl (g3 (q - 1) (by omega) (by omega))
      · rw [a3 p y (by omega)]
        exact h3 (p - 1) (q - 1) (by omega) (by omega)
