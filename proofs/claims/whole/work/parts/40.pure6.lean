/-! the tile that is next: not done, of most worth, of the lowest number -/
theorem i_nlt {a b : Int32} (h : ¬ a < b) : b < a ∨ b = a := by
  rw [Int32.lt_iff_toInt_lt] at h
  by_cases q : b.toInt = a.toInt
  · exact Or.inr (Int32.toInt_inj.mp q)
  · exact Or.inl (by rw [Int32.lt_iff_toInt_lt]; omega)
theorem i_trans {a b c : Int32} (h1 : a < b) (h2 : b < c) : a < c := by
  rw [Int32.lt_iff_toInt_lt] at *
  omega
theorem i_irr {a : Int32} (h : a < a) : False := by
  rw [Int32.lt_iff_toInt_lt] at h
  omega
/-- i comes behind j -/
def beh (worth : Nat → Int32) (j i : Nat) : Prop := worth i < worth j ∨ (worth i = worth j ∧ j < i)
theorem beh_no {worth : Nat → Int32} {i j : Nat} (h1 : beh worth j i) (h2 : beh worth i j) : False := by
  rcases h1 with a | ⟨a, b⟩
  · rcases h2 with c | ⟨c, d⟩
    · exact i_irr (i_trans a c)
    · rw [c] at a; exact i_irr a
  · rcases h2 with c | ⟨c, d⟩
    · rw [a] at c; exact i_irr c
    · omega
theorem beh_tr {worth : Nat → Int32} {i j k : Nat} (h1 : beh worth j i) (h2 : beh worth i k) : beh worth j k := by
  rcases h1 with a | ⟨a, b⟩
  · rcases h2 with c | ⟨c, d⟩
    · exact Or.inl (i_trans c a)
    · exact Or.inl (by rw [c]; exact a)
  · rcases h2 with c | ⟨c, d⟩
    · exact Or.inl (by rw [← a]; exact c)
    · exact Or.inr ⟨c.trans a, by omega⟩
theorem mnF_is (done worth : Nat → Int32) : ∀ n, n ≤ 48 → ((∀ i, i < n → ¬ done i = 0) ∧ mnF done worth n = -1) ∨ ∃ j, j < n ∧ mnF done worth n = nI j ∧ done j = 0 ∧ ∀ i, i < n → done i = 0 → i = j ∨ beh worth j i := by
  intro n
  induction n with
  | zero => intro _; exact Or.inl ⟨fun i hi => absurd hi (Nat.not_lt_zero _), rfl⟩
  | succ n ih =>
    intro hn
    rw [mnF_s rfl]
    rcases ih (by omega) with ⟨h1, h2⟩ | ⟨j, h1, h2, h3, h4⟩
    · rw [h2]
      by_cases d : done n = 0
      · refine Or.inr ⟨n, by omega, if_pos ⟨d, Or.inl rfl⟩, d, fun i hi hd => ?_⟩
        rcases (show i < n ∨ i = n by omega) with q | q
        · exact absurd hd (h1 i q)
        · exact Or.inl q
      · refine Or.inl ⟨fun i hi => ?_, if_neg (fun z => d z.1)⟩
        rcases (show i < n ∨ i = n by omega) with q | q
        · exact h1 i q
        · rw [q]; exact d
    · have ec : (nI j).toNatClampNeg = j := nI_clamp (by omega)
      have em : ¬ nI j = -1 := nI_m1 (by omega)
      rw [h2, ec]
      by_cases d : done n = 0 ∧ (nI j = -1 ∨ worth j < worth n)
      · have w : worth j < worth n := d.2.resolve_left em
        refine Or.inr ⟨n, by omega, if_pos d, d.1, fun i hi hd => ?_⟩
        rcases (show i < n ∨ i = n by omega) with q | q
        · rcases h4 i q hd with r | r
          · rw [r]; exact Or.inr (Or.inl w)
          · exact Or.inr (beh_tr (Or.inl w) r)
        · exact Or.inl q
      · refine Or.inr ⟨j, by omega, if_neg d, h3, fun i hi hd => ?_⟩
        rcases (show i < n ∨ i = n by omega) with q | q
        · exact h4 i q hd
        · rw [q] at hd ⊢
          rcases i_nlt (fun z => d ⟨hd, Or.inr z⟩) with r | r
          · exact Or.inr (Or.inl r)
          · exact Or.inr (Or.inr ⟨r, h1⟩)
theorem mnF_pick {done worth : Nat → Int32} {n j : Nat} (hn : n ≤ 48) (hj : j < n) (hd : done j = 0) (hb : ∀ i, i < n → done i = 0 → i = j ∨ beh worth j i) : mnF done worth n = nI j := by
  rcases mnF_is done worth n hn with ⟨h1, -⟩ | ⟨k, h1, h2, h3, h4⟩
  · exact absurd hd (h1 j hj)
  · rcases hb k h1 h3 with q | q
    · rw [h2, q]
    · rcases h4 j hj hd with r | r
      · rw [h2, r]
      · exact absurd r (fun z => beh_no q z)
theorem mnF_end {done worth : Nat → Int32} {n : Nat} (hn : n ≤ 48) (h : ∀ i, i < n → ¬ done i = 0) : mnF done worth n = -1 := by
  rcases mnF_is done worth n hn with ⟨-, h2⟩ | ⟨k, h1, h2, h3, h4⟩
  · exact h2
  · exact absurd h3 (h k h1)
