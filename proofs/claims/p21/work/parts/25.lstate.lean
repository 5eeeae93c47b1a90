/-! the law's rows: near, far, the times, the changes, the moves, the known pictures, the numbers -/
abbrev LV : Type := ((((Nat → Int32) × (Nat → Int32)) × ((Nat → Int32) × (Nat → Int32))) × (((Nat → Int32) × (Nat → Int32)) × (Nat → Int32)))
def LV.n (v : LV) : Nat → Int32 := v.1.1.1
def LV.f (v : LV) : Nat → Int32 := v.1.1.2
def LV.u (v : LV) : Nat → Int32 := v.1.2.1
def LV.h (v : LV) : Nat → Int32 := v.1.2.2
def LV.w (v : LV) : Nat → Int32 := v.2.1.1
def LV.kn (v : LV) : Nat → Int32 := v.2.1.2
def LV.gg (v : LV) : Nat → Int32 := v.2.2
def LV.mk9 (n : Nat → Int32) (f : Nat → Int32) (u : Nat → Int32) (h : Nat → Int32) (w : Nat → Int32) (kn : Nat → Int32) (gg : Nat → Int32) : LV := (((n, f), (u, h)), ((w, kn), gg))
def LV.nS (v : LV) (x : Nat → Int32) : LV := LV.mk9 x v.f v.u v.h v.w v.kn v.gg
def LV.fS (v : LV) (x : Nat → Int32) : LV := LV.mk9 v.n x v.u v.h v.w v.kn v.gg
def LV.uS (v : LV) (x : Nat → Int32) : LV := LV.mk9 v.n v.f x v.h v.w v.kn v.gg
def LV.hS (v : LV) (x : Nat → Int32) : LV := LV.mk9 v.n v.f v.u x v.w v.kn v.gg
def LV.wS (v : LV) (x : Nat → Int32) : LV := LV.mk9 v.n v.f v.u v.h x v.kn v.gg
def LV.knS (v : LV) (x : Nat → Int32) : LV := LV.mk9 v.n v.f v.u v.h v.w x v.gg
def LV.ggS (v : LV) (x : Nat → Int32) : LV := LV.mk9 v.n v.f v.u v.h v.w v.kn x
abbrev RW (g : GG) (r : Nat → Nat) (x : LV) : va_W := [(r 0, .inl (g.2 0, 48, .inl x.n)), (r 1, .inl (g.2 0, 48, .inl x.f)), (r 2, .inl (g.2 0, 48, .inl x.u)), (r 3, .inl (g.2 0, 48, .inl x.h)), (r 4, .inl (g.2 0, 30, .inl x.w)), (r 5, .inl (g.2 0, 9, .inl x.kn)), (r 6, .inl (g.2 0, 8, .inl x.gg))]
/-- low bits of v, as a number below n -/
def lowI (v n : Int32) : Int32 := (v &&& 2147483647) - (v &&& 2147483647) / n * n
/-- the ones among the k low bits of b -/
def popB : Nat → Nat → Nat
  | 0, _ => 0
  | k + 1, b => b % 2 + popB k (b / 2)
theorem pop_s : ∀ b : Fin 256, popB 8 b.val = b.val % 2 + popB 8 (b.val / 2) := by decide +kernel
theorem pop_0 : popB 8 0 = 0 := by decide +kernel
theorem pop_bc : ∀ b : Fin 256, bcI (nI b.val) = nI (popB 8 b.val) := by decide +kernel
theorem pop_8 : ∀ b : Fin 256, popB 8 b.val ≤ 8 := by decide +kernel
theorem q64 : ∀ b : Fin 256, (nI b.val / 64 = 0 ↔ nI b.val < 64) := by decide +kernel
/-- the kind of a tile -/
def kdL (n h : Nat → Int32) (t : Nat) : Int32 := if bcI (h t) < 4 then (if n t < 64 then 0 else 1) else 2
def lkV (x : LV) (t : Nat) : LV := if x.n t = x.f t then x.uS (upd x.u t (-1)) else if 0 ≤ x.u t then x else x.uS (upd x.u t (x.gg 0))
def drH (x : LV) (t : Nat) (q : Int32) : LV := if x.n t = q then x else x.hS (upd x.h t (x.h t ||| 1))
def drN (x : LV) (t : Nat) (q : Int32) : LV := (drH x t q).nS (upd (drH x t q).n t q)
def drV (x : LV) (t : Nat) (q : Int32) : LV := lkV (drN x t q) t
theorem upd_id (f : Nat → Int32) (k : Nat) : upd f k (f k) = f := by
  funext j
  by_cases hj : j = k
  · subst hj
    exact pk_us
  · exact pk_un hj
/-- the source and the goal of the z-th tile of a block -/
def sT (m : Nat → Nat) (z : Nat) : Nat := 8 * (m 1 + z / m 2) + m 0 + z % m 2
def dT (m : Nat → Nat) (z : Nat) : Nat := 8 * (m 5 + z / m 2) + m 4 + z % m 2
def srcN (m : Nat → Nat) : Nat := 8 * m 1 + m 0
def dstN (m : Nat → Nat) : Nat := 8 * m 5 + m 4
def shA9 (m : Nat → Nat) (i : Nat) : Nat := if dstN m ≤ srcN m then i else m 2 * m 3 - 1 - i
def shN (m : Nat → Nat) (scr : Nat → Int32) : Nat → (Nat → Int32)
  | 0 => scr
  | i + 1 => upd (shN m scr i) (dT m (shA9 m i)) (shN m scr i (sT m (shA9 m i)))
abbrev HW (g : GG) (q r : Nat) (scr w : Nat → Int32) : va_W := [(q, .inl (g.2 0, 48, .inl scr)), (r, .inl (g.2 0, 30, .inl w))]
theorem blk_dm {m : Nat → Nat} (h1 : 1 ≤ m 2) {z : Nat} (hz : z < m 2 * m 3) : z / m 2 < m 3 ∧ z % m 2 < m 2 := by
  refine ⟨(Nat.div_lt_iff_lt_mul h1).mpr (by rw [Nat.mul_comm]; exact hz), Nat.mod_lt _ h1⟩
theorem sT_lt {m : Nat → Nat} (hm : MOK m) (h1 : 1 ≤ m 2) {z : Nat} (hz : z < m 2 * m 3) : sT m z < 48 := by
  obtain ⟨k1, k2⟩ := blk_dm h1 hz
  obtain ⟨a1, a2, a3, a4⟩ := hm
  unfold sT
  omega
theorem dT_lt {m : Nat → Nat} (hm : MOK m) (h1 : 1 ≤ m 2) {z : Nat} (hz : z < m 2 * m 3) : dT m z < 48 := by
  obtain ⟨k1, k2⟩ := blk_dm h1 hz
  obtain ⟨a1, a2, a3, a4⟩ := hm
  unfold dT
  omega
theorem blk_48 {m : Nat → Nat} (hm : MOK m) : m 2 * m 3 ≤ 48 := by
  obtain ⟨a1, a2, a3, a4⟩ := hm
  exact Nat.le_trans (Nat.mul_le_mul (show m 2 ≤ 8 by omega) (show m 3 ≤ 6 by omega)) (by decide)
theorem sh_by (a b c d : Nat) : 8 * (nI a - nI b) + nI c - nI d = nI (8 * a + c) - nI (8 * b + d) := by
  rw [← nI_add, ← nI_add, ← pk_mul, ← pk_mul]
  have e : nI 8 = 8 := rfl
  rw [e]
  grind
theorem sh_src {m : Nat → Nat} (h1 : 1 ≤ m 2) (h8 : m 2 ≤ 8) {z : Nat} (hz : z < 48) : 8 * (nI (m 1) + nI z / nI (m 2)) + nI (m 0) + (nI z - nI z / nI (m 2) * nI (m 2)) = nI (sT m z) := by
  rw [pk_rem (by omega) h1 (by omega), pk_div (by omega) h1 (by omega)]
  unfold sT
  rw [← nI_add, ← nI_add, ← pk_mul, ← nI_add]
  rfl
theorem sh_dst {m : Nat → Nat} (z : Nat) : nI (sT m z) + (nI (dstN m) - nI (srcN m)) = nI (dT m z) := by
  have e : sT m z + dstN m = dT m z + srcN m := by
    unfold sT dT dstN srcN
    omega
  have e2 : nI (sT m z) + nI (dstN m) = nI (dT m z) + nI (srcN m) := by rw [nI_add, nI_add, e]
  grind
theorem sh_at0 {m : Nat → Nat} (hm : MOK m) {i : Nat} (c : nI (dstN m) - nI (srcN m) ≤ 0) : shA9 m i = i := by
  obtain ⟨a1, a2, a3, a4⟩ := hm
  unfold shA9
  refine if_pos (Nat.not_lt.mp (fun z => ?_))
  rw [Int32.le_iff_toInt_le, pk_sub_toInt (by unfold dstN; omega) (by unfold srcN; omega)] at c
  have : (0 : Int32).toInt = 0 := rfl
  omega
theorem sh_at1 {m : Nat → Nat} (hm : MOK m) {i : Nat} (c : ¬ nI (dstN m) - nI (srcN m) ≤ 0) : shA9 m i = m 2 * m 3 - 1 - i := by
  obtain ⟨a1, a2, a3, a4⟩ := hm
  unfold shA9
  refine if_neg (fun z => c ?_)
  rw [Int32.le_iff_toInt_le, pk_sub_toInt (by unfold dstN; omega) (by unfold srcN; omega)]
  have : (0 : Int32).toInt = 0 := rfl
  omega
/-- the first place of y from i on, k places to look at -/
def fpl (kn : Nat → Int32) (y : Int32) : Nat → Nat → Nat
  | i, 0 => i
  | i, k + 1 => if kn i = y then i else fpl kn y (i + 1) k
def meA (kn : Nat → Int32) (y : Int32) : Int32 := if fpl kn y 0 8 = 8 then 0 else 1
def meN (kn : Nat → Int32) (y : Int32) : Nat := if fpl kn y 0 8 = 8 then 7 else fpl kn y 0 8
def meK (kn : Nat → Int32) (y : Int32) : Nat → Int32 := upd (shF kn (meN kn y) 0) 0 y
