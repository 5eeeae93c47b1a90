/-! passes leave what isn't theirs; 'used' doesn't matter to them -/
theorem mtl_us (m : MV) (f : Nat → Nat) (y : Int32) : ∀ n, mtl (m.usedS y) f n = (mtl m f n).usedS y := by
  intro n
  induction n with
  | zero => rfl
  | succ n ih =>
    show mtf (mtl (m.usedS y) f n) (8 * f 5 + f 4 + 8 * (n / f 2) + n % f 2) ((mtl (m.usedS y) f n).block n) = (mtf (mtl m f n) (8 * f 5 + f 4 + 8 * (n / f 2) + n % f 2) ((mtl m f n).block n)).usedS y
    rw [ih]
    rfl
theorem mtW_us (m : MV) (y : Int32) : mtW (m.usedS y) = (mtW m).usedS y := by
  have e : mtA (m.usedS y) (hdJ (m.usedS y)) = (mtA m (hdJ m)).usedS y := mtl_us (mbV m m.far (8 * hdJ m 1 + hdJ m 0) (hdJ m 2) (hdJ m 2 * hdJ m 3)) (hdJ m) y (hdJ m 2 * hdJ m 3)
  show mtC2 (mtB (mtA (m.usedS y) (hdJ (m.usedS y)))) = (mtC2 (mtB (mtA m (hdJ m)))).usedS y
  rw [e]
  generalize mtA m (hdJ m) = M
  rfl
theorem mpT_us (y : Int32) : ∀ (k : Nat) (m : MV) (x : Int32), mpT (m.usedS y) x k = ((mpT m x k).1.usedS y, (mpT m x k).2) := by
  intro k
  induction k with
  | zero => intro m x; rfl
  | succ k ih =>
    intro m x
    show (if x < 2 then (m.usedS y, x) else mpT (mtW (m.usedS y)) (x + (-2)) k) = ((if x < 2 then (m, x) else mpT (mtW m) (x + (-2)) k).1.usedS y, (if x < 2 then (m, x) else mpT (mtW m) (x + (-2)) k).2)
    by_cases z : x < 2
    · rw [if_pos z, if_pos z]
    · rw [if_neg z, if_neg z, mtW_us]
      exact ih _ _
theorem mpR_us (m : MV) (t w : Nat) (c x y : Int32) : mpR (m.usedS y) t w c x = ((mpR m t w c x).1, (mpR m t w c x).2.usedS y) := by
  unfold mpR
  by_cases z : x < c
  · rw [if_pos z, if_pos z]
  · rw [if_neg z, if_neg z]
    rfl
theorem mrR_us (m : MV) (t : Nat) (x y : Int32) : mrR (m.usedS y) t x = ((mrR m t x).1, (mrR m t x).2.usedS y) := by
  unfold mrR
  by_cases z : x < 2
  · rw [if_pos z, if_pos z]
  · rw [if_neg z, if_neg z]
    show (if m.far t = mroI m t then (0, m.usedS y) else (2, mrW (m.usedS y) t)) = _
    by_cases q : m.far t = mroI m t
    · rw [if_pos q, if_pos q]
    · rw [if_neg q, if_neg q]
      rfl
theorem msR_us (m : MV) (t : Nat) (x y : Int32) : msR (m.usedS y) t x = ((msR m t x).1, (msR m t x).2.usedS y) := by
  show (if mkF m.known (m.near t) m.pics = 0 then (if mkI m t = 2 then mrR (m.usedS y) t x else mpR (m.usedS y) t 3 (if mkI m t = 0 then 2 else 6) x) else mpR (m.usedS y) t 1 1 x) = _
  unfold msR
  by_cases a : mkF m.known (m.near t) m.pics = 0
  · rw [if_pos a, if_pos a]
    by_cases b : mkI m t = 2
    · rw [if_pos b, if_pos b]
      exact mrR_us m t x y
    · rw [if_neg b, if_neg b]
      exact mpR_us m t 3 _ x y
  · rw [if_neg a, if_neg a]
    exact mpR_us m t 1 1 x y
theorem mlF_us (y : Int32) : ∀ (n : Nat) (x : Int32) (m : MV), mlF n (x, m.usedS y) = ((mlF n (x, m)).1, (mlF n (x, m)).2.usedS y) := by
  intro n
  induction n with
  | zero => intro x m; rfl
  | succ n ih =>
    intro x m
    show (if mnX m = -1 then (x, m.usedS y) else mlF n (mlS (x, m.usedS y))) = ((if mnX m = -1 then (x, m) else mlF n (mlS (x, m))).1, (if mnX m = -1 then (x, m) else mlF n (mlS (x, m))).2.usedS y)
    by_cases z : mnX m = -1
    · rw [if_pos z, if_pos z]
    · rw [if_neg z, if_neg z]
      have e : mlS (x, m.usedS y) = ((mlS (x, m)).1, (mlS (x, m)).2.usedS y) := by
        have k := msR_us m (mnX m).toNatClampNeg x y
        show (x - (msR (m.usedS y) (mnX m).toNatClampNeg x).1, (msR (m.usedS y) (mnX m).toNatClampNeg x).2.doneS (upd (msR (m.usedS y) (mnX m).toNatClampNeg x).2.done (mnX m).toNatClampNeg 1)) = _
        rw [k]
        rfl
      rw [e]
      exact ih _ _
theorem mpS_us (m : MV) (b y : Int32) : mpS (m.usedS y) b = ((mpS m b).1, (mpS m b).2.usedS y) := by
  show mlF 49 ((mpT (m.usedS y) b m.moves).2, mdW (mpT (m.usedS y) b m.moves).1 48) = _
  rw [mpT_us]
  exact mlF_us y 49 (mpT m b m.moves).2 (mdW (mpT m b m.moves).1 48)
theorem mpV_us (m : MV) (b y : Int32) : mpV (m.usedS y) b = (mpV m b).usedS y := by
  show mzV (mpS (m.usedS y) b).2 48 = (mzV (mpS m b).2 48).usedS y
  rw [mpS_us]
  generalize (mpS m b).2 = M
  rfl
/-- what passes leave as it is -/
def Kep (u m : MV) : Prop := u.near = m.near ∧ u.look = m.look ∧ u.thr = m.thr ∧ u.used = m.used ∧ u.kept = m.kept
theorem Kep.tr {a b c : MV} (h1 : Kep a b) (h2 : Kep b c) : Kep a c := ⟨h1.1.trans h2.1, h1.2.1.trans h2.2.1, h1.2.2.1.trans h2.2.2.1, h1.2.2.2.1.trans h2.2.2.2.1, h1.2.2.2.2.trans h2.2.2.2.2⟩
theorem kep_tl (m : MV) (f : Nat → Nat) : ∀ n, Kep (mtl m f n) m := by
  intro n
  induction n with
  | zero => exact ⟨rfl, rfl, rfl, rfl, rfl⟩
  | succ n ih => exact ih
theorem kep_W (m : MV) : Kep (mtW m) m := kep_tl (mbV m m.far (8 * hdJ m 1 + hdJ m 0) (hdJ m 2) (hdJ m 2 * hdJ m 3)) (hdJ m) (hdJ m 2 * hdJ m 3)
theorem kep_T : ∀ (k : Nat) (m : MV) (x : Int32), Kep (mpT m x k).1 m := by
  intro k
  induction k with
  | zero => intro m x; exact ⟨rfl, rfl, rfl, rfl, rfl⟩
  | succ k ih =>
    intro m x
    show Kep (if x < 2 then (m, x) else mpT (mtW m) (x + (-2)) k).1 m
    by_cases z : x < 2
    · rw [if_pos z]
      exact ⟨rfl, rfl, rfl, rfl, rfl⟩
    · rw [if_neg z]
      exact (ih _ _).tr (kep_W m)
theorem kep_s (m : MV) (t : Nat) (x : Int32) : Kep (msR m t x).2 m := by
  have a : ∀ w c, Kep (mpR m t w c x).2 m := by
    intro w c
    unfold mpR
    split <;> exact ⟨rfl, rfl, rfl, rfl, rfl⟩
  have b : Kep (mrR m t x).2 m := by
    unfold mrR
    split
    · exact ⟨rfl, rfl, rfl, rfl, rfl⟩
    · split <;> exact ⟨rfl, rfl, rfl, rfl, rfl⟩
  unfold msR
  split
  · split
    · exact b
    · exact a _ _
  · exact a _ _
theorem kep_l : ∀ (n : Nat) (st : Int32 × MV), Kep (mlF n st).2 st.2 := by
  intro n
  induction n with
  | zero => intro st; exact ⟨rfl, rfl, rfl, rfl, rfl⟩
  | succ n ih =>
    intro st
    show Kep (if mnX st.2 = -1 then st else mlF n (mlS st)).2 st.2
    by_cases z : mnX st.2 = -1
    · rw [if_pos z]
      exact ⟨rfl, rfl, rfl, rfl, rfl⟩
    · rw [if_neg z]
      have k : Kep (mlS st).2 st.2 := kep_s st.2 (mnX st.2).toNatClampNeg st.1
      exact (ih (mlS st)).tr k
theorem kep_z {M m : MV} (h : Kep M m) : Kep (mzV M 48) m := h
theorem kep_dW {M m : MV} (h : Kep M m) : Kep (mdW M 48) m := h
theorem kep_p (m : MV) (b : Int32) : Kep (mpV m b) m := kep_z ((kep_l 49 ((mpT m b m.moves).2, mdW (mpT m b m.moves).1 48)).tr (kep_dW (kep_T m.moves m b)))
theorem kep_g (b : Int32) : ∀ (k n : Nat) (m : MV), Kep (mgL b k n m).2 m := by
  intro k
  induction k with
  | zero => intro n m; exact ⟨rfl, rfl, rfl, rfl, rfl⟩
  | succ k ih =>
    intro n m
    show Kep (if 100 < n then (n, m) else if m.moves = 0 ∧ muF m 48 ≤ 0 then (n, m) else mgL b k (n + 1) (mpV m b)).2 m
    split
    · exact ⟨rfl, rfl, rfl, rfl, rfl⟩
    · split
      · exact ⟨rfl, rfl, rfl, rfl, rfl⟩
      · exact (ih _ _).tr (kep_p m b)
