/-! the picture of a Sender: its rows, moves, known pictures, counts; and the cells that hold it -/
abbrev SV : Type := (((((Nat → Int32) × (Nat → Int32)) × ((Nat → Int32) × (Nat → Int32))) × (((Nat → Int32) × (Nat → Int32)) × ((Nat → Int32) × (Nat → Nat → Nat)))) × ((((Nat) × (Nat → Int32)) × ((Nat) × (Nat → Int32))) × (((Int32) × (Int32)) × (Nat))))
def SV.near (v : SV) : Nat → Int32 := v.1.1.1.1
def SV.far (v : SV) : Nat → Int32 := v.1.1.1.2
def SV.since (v : SV) : Nat → Int32 := v.1.1.2.1
def SV.ch (v : SV) : Nat → Int32 := v.1.1.2.2
def SV.worths (v : SV) : Nat → Int32 := v.1.2.1.1
def SV.order (v : SV) : Nat → Int32 := v.1.2.1.2
def SV.before (v : SV) : Nat → Int32 := v.1.2.2.1
def SV.mv (v : SV) : Nat → Nat → Nat := v.1.2.2.2
def SV.wm (v : SV) : Nat := v.2.1.1.1
def SV.kp (v : SV) : Nat → Int32 := v.2.1.1.2
def SV.kc (v : SV) : Nat := v.2.1.2.1
def SV.sc (v : SV) : Nat → Int32 := v.2.1.2.2
def SV.us (v : SV) : Int32 := v.2.2.1.1
def SV.now (v : SV) : Int32 := v.2.2.1.2
def SV.la (v : SV) : Nat := v.2.2.2
def SV.mk9 (near : Nat → Int32) (far : Nat → Int32) (since : Nat → Int32) (ch : Nat → Int32) (worths : Nat → Int32) (order : Nat → Int32) (before : Nat → Int32) (mv : Nat → Nat → Nat) (wm : Nat) (kp : Nat → Int32) (kc : Nat) (sc : Nat → Int32) (us : Int32) (now : Int32) (la : Nat) : SV := ((((near, far), (since, ch)), ((worths, order), (before, mv))), (((wm, kp), (kc, sc)), ((us, now), la)))
def SV.nearS (v : SV) (x : Nat → Int32) : SV := SV.mk9 x v.far v.since v.ch v.worths v.order v.before v.mv v.wm v.kp v.kc v.sc v.us v.now v.la
def SV.farS (v : SV) (x : Nat → Int32) : SV := SV.mk9 v.near x v.since v.ch v.worths v.order v.before v.mv v.wm v.kp v.kc v.sc v.us v.now v.la
def SV.sinceS (v : SV) (x : Nat → Int32) : SV := SV.mk9 v.near v.far x v.ch v.worths v.order v.before v.mv v.wm v.kp v.kc v.sc v.us v.now v.la
def SV.chS (v : SV) (x : Nat → Int32) : SV := SV.mk9 v.near v.far v.since x v.worths v.order v.before v.mv v.wm v.kp v.kc v.sc v.us v.now v.la
def SV.worthsS (v : SV) (x : Nat → Int32) : SV := SV.mk9 v.near v.far v.since v.ch x v.order v.before v.mv v.wm v.kp v.kc v.sc v.us v.now v.la
def SV.orderS (v : SV) (x : Nat → Int32) : SV := SV.mk9 v.near v.far v.since v.ch v.worths x v.before v.mv v.wm v.kp v.kc v.sc v.us v.now v.la
def SV.beforeS (v : SV) (x : Nat → Int32) : SV := SV.mk9 v.near v.far v.since v.ch v.worths v.order x v.mv v.wm v.kp v.kc v.sc v.us v.now v.la
def SV.mvS (v : SV) (x : Nat → Nat → Nat) : SV := SV.mk9 v.near v.far v.since v.ch v.worths v.order v.before x v.wm v.kp v.kc v.sc v.us v.now v.la
def SV.wmS (v : SV) (x : Nat) : SV := SV.mk9 v.near v.far v.since v.ch v.worths v.order v.before v.mv x v.kp v.kc v.sc v.us v.now v.la
def SV.kpS (v : SV) (x : Nat → Int32) : SV := SV.mk9 v.near v.far v.since v.ch v.worths v.order v.before v.mv v.wm x v.kc v.sc v.us v.now v.la
def SV.kcS (v : SV) (x : Nat) : SV := SV.mk9 v.near v.far v.since v.ch v.worths v.order v.before v.mv v.wm v.kp x v.sc v.us v.now v.la
def SV.scS (v : SV) (x : Nat → Int32) : SV := SV.mk9 v.near v.far v.since v.ch v.worths v.order v.before v.mv v.wm v.kp v.kc x v.us v.now v.la
def SV.usS (v : SV) (x : Int32) : SV := SV.mk9 v.near v.far v.since v.ch v.worths v.order v.before v.mv v.wm v.kp v.kc v.sc x v.now v.la
def SV.nowS (v : SV) (x : Int32) : SV := SV.mk9 v.near v.far v.since v.ch v.worths v.order v.before v.mv v.wm v.kp v.kc v.sc v.us x v.la
def SV.laS (v : SV) (x : Nat) : SV := SV.mk9 v.near v.far v.since v.ch v.worths v.order v.before v.mv v.wm v.kp v.kc v.sc v.us v.now x
abbrev BM (f : Nat → Nat) : va_E := .inr (0, [.int (nI (f 0)), .int (nI (f 1)), .int (nI (f 2)), .int (nI (f 3)), .int (nI (f 4)), .int (nI (f 5))])
abbrev SW (g : GG) (a : Nat → Nat) (v : SV) : va_W := [(a 0, .inr (2, [.ref (a 1), .ref (a 2), .ref (a 3), .ref (a 4), .ref (a 5), .ref (a 6), .ref (a 7), .ref (a 8), .int (nI v.wm), .ref (a 9), .ref (a 11), .int v.us, .int v.now, .int (nI v.la)])), (a 1, .inl (g.2 0, 48, .inl v.near)), (a 2, .inl (g.2 0, 48, .inl v.far)), (a 3, .inl (g.2 0, 48, .inl v.since)), (a 4, .inl (g.2 0, 48, .inl v.ch)), (a 5, .inl (g.2 0, 48, .inl v.worths)), (a 6, .inl (g.2 0, 48, .inl v.order)), (a 7, .inl (g.2 0, 48, .inl v.before)), (a 8, .inl (g.2 3, 5, .inr (.inr (.inr (.inr (fun j => if j < 5 then some (a (12 + j)) else none)))))), (a 9, .inr (1, [.ref (a 10), .int (nI v.kc)])), (a 10, .inl (g.2 0, 8, .inl v.kp)), (a 11, .inl (g.2 0, 4, .inl v.sc)), (a 12, BM (v.mv 0)), (a 13, BM (v.mv 1)), (a 14, BM (v.mv 2)), (a 15, BM (v.mv 3)), (a 16, BM (v.mv 4))]
/-- a row of known pictures by itself -/
abbrev KW (g : GG) (o q : Nat) (kp : Nat → Int32) (kc : Nat) : va_W := [(o, .inr (1, [.ref q, .int (nI kc)])), (q, .inl (g.2 0, 8, .inl kp))]
/-- the place of a picture from i on, k places to look at -/
def plcF (kp : Nat → Int32) (x : Int32) : Nat → Nat → Int32
  | _, 0 => -1
  | i, k + 1 => if kp i = x then nI i else plcF kp x (i + 1) k
def ushI (x k : Int32) : Int32 := (x.toUInt32 >>> (k.toUInt32 &&& Int32.toUInt32 31)).toInt32
def ushL (x : Int64) (k : Int32) : Int64 := (x.toUInt64 >>> (k.toInt64.toUInt64 &&& Int64.toUInt64 63)).toInt64
def bc1 (x : Int32) : Int32 := x - (ushI x 1 &&& 1431655765)
def bc2 (x : Int32) : Int32 := (x &&& 858993459) + (ushI x 2 &&& 858993459)
def bc3 (x : Int32) : Int32 := (x + ushI x 4) &&& 252645135
def bc4 (x : Int32) : Int32 := x + ushI x 8
def bc5 (x : Int32) : Int32 := x + ushI x 16
/-- the bits of an int, counted as the library does it -/
def bcI (x : Int32) : Int32 := bc5 (bc4 (bc3 (bc2 (bc1 x)))) &&& 63
def bl1 (x : Int64) : Int64 := x - (ushL x 1 &&& 6148914691236517205)
def bl2 (x : Int64) : Int64 := (x &&& 3689348814741910323) + (ushL x 2 &&& 3689348814741910323)
def bl3 (x : Int64) : Int64 := (x + ushL x 4) &&& 1085102592571150095
def bl4 (x : Int64) : Int64 := x + ushL x 8
def bl5 (x : Int64) : Int64 := x + ushL x 16
def bl6 (x : Int64) : Int64 := x + ushL x 32
def bcL (x : Int64) : Int32 := (bl6 (bl5 (bl4 (bl3 (bl2 (bl1 x)))))).toInt32 &&& 127
def absI (x : Int32) : Int32 := if 0 ≤ x then x else 0 - x
/-- moves of blocks: fields 0 fromX, 1 fromY, 2 columns, 3 rows, 4 toX, 5 toY -/
def MOK (f : Nat → Nat) : Prop := f 0 + f 2 ≤ 8 ∧ f 1 + f 3 ≤ 6 ∧ f 4 + f 2 ≤ 8 ∧ f 5 + f 3 ≤ 6
def apC (f : Nat → Nat) (bef : Nat → Int32) (r : Nat) (scr : Nat → Int32) : Nat → (Nat → Int32)
  | 0 => scr
  | c + 1 => upd (apC f bef r scr c) (8 * (f 5 + r) + (f 4 + c)) (bef (8 * (f 1 + r) + (f 0 + c)))
def apR (f : Nat → Nat) (bef scr : Nat → Int32) : Nat → (Nat → Int32)
  | 0 => scr
  | r + 1 => apC f bef r (apR f bef scr r) (f 2)
def apF (f : Nat → Nat) (scr bef : Nat → Int32) : Nat → Int32 := apR f (fz_to scr bef 48) scr (f 3)
abbrev AW (g : GG) (o q r : Nat) (f : Nat → Nat) (scr bef : Nat → Int32) : va_W := [(o, BM f), (q, .inl (g.2 0, 48, .inl scr)), (r, .inl (g.2 0, 48, .inl bef))]
/-- a picture is met -/
def mtG (kp : Nat → Int32) (kc : Nat) (x : Int32) : Nat := if plcF kp x 0 kc = -1 then (if kc < 8 then kc else 7) else (plcF kp x 0 kc).toNatClampNeg
def mtC (kp : Nat → Int32) (kc : Nat) (x : Int32) : Nat := if plcF kp x 0 kc = -1 then (if kc < 8 then kc + 1 else kc) else kc
/-- places above i, up to g, have what stood one place lower -/
def shF (kp : Nat → Int32) (g i : Nat) : Nat → Int32 := fun j => if i < j ∧ j ≤ g then kp (j - 1) else kp j
def mtP (kp : Nat → Int32) (kc : Nat) (x : Int32) : Nat → Int32 := upd (shF kp (mtG kp kc x) 0) 0 x
theorem shF_g (kp : Nat → Int32) (g : Nat) : shF kp g g = kp := by
  funext j
  have h : ¬ (g < j ∧ j ≤ g) := by omega
  simp [shF, h]
theorem shF_s (kp : Nat → Int32) (g i : Nat) (h : i < g) : upd (shF kp g (i + 1)) (i + 1) (shF kp g (i + 1) i) = shF kp g i := by
  funext j
  have h1 : ¬ (i + 1 < i ∧ i ≤ g) := by omega
  by_cases hj : j = i + 1
  · subst hj
    rw [pk_us]
    have h2 : i < i + 1 ∧ i + 1 ≤ g := by omega
    simp [shF, h1, h2]
  · rw [pk_un hj]
    by_cases h3 : i < j ∧ j ≤ g
    · have h4 : i + 1 < j ∧ j ≤ g := by omega
      simp [shF, h3, h4]
    · have h4 : ¬ (i + 1 < j ∧ j ≤ g) := by omega
      simp [shF, h3, h4]
theorem plcF_in (kp : Nat → Int32) (x : Int32) : ∀ (k i : Nat), plcF kp x i k = -1 ∨ ∃ j, i ≤ j ∧ j < i + k ∧ plcF kp x i k = nI j := by
  intro k
  induction k with
  | zero => intro i; exact Or.inl rfl
  | succ k ih =>
    intro i
    show (if kp i = x then nI i else plcF kp x (i + 1) k) = -1 ∨ _
    by_cases h : kp i = x
    · refine Or.inr ⟨i, Nat.le_refl _, by omega, ?_⟩
      exact if_pos h
    · rw [if_neg h]
      rcases ih (i + 1) with h2 | ⟨j, h3, h4, h5⟩
      · exact Or.inl h2
      · refine Or.inr ⟨j, by omega, by omega, ?_⟩
        show (if kp i = x then nI i else plcF kp x (i + 1) k) = nI j
        rw [if_neg h, h5]
/-- what the drawing calls note -/
def ncF (v : SV) : Nat → Int32 := fun t => if v.near t = v.before t then v.ch t else v.ch t ||| 1
def nuF (v : SV) : Nat → Int32 := fun t => if v.near t = v.far t then -1 else if v.since t = -1 then v.now else v.since t
def ncV (v : SV) : SV := v.chS (fz_to (ncF v) v.ch 48)
def nuV (v : SV) : SV := v.sinceS (fz_to (nuF v) v.since 48)
def scV (v : SV) : SV := v.chS (fz_to (fun t => v.ch t <<< ((1 : Int32) &&& 31) &&& 255) v.ch 48)
def kdI (v : SV) (t : Nat) : Int32 := if bcI (v.ch t) < 4 then (if v.near t < 64 then 0 else 1) else 2
def hfF (v : SV) : Nat → Nat → Int32
  | _, 0 => 0
  | i, k + 1 => if kdI v i = 2 then 1 else hfF v (i + 1) k
def usF (v : SV) : Nat → Int64
  | 0 => 0
  | t + 1 => if v.since t = -1 then usF v t else usF v t ||| (1 <<< ((nI t).toInt64 &&& 63))
def crF (v : SV) : Nat → Int32
  | 0 => 0
  | t + 1 => if v.far t < 1000 then crF v t else crF v t + 1
def alI (v : SV) : Int32 := if v.wm = 0 then (if usF v 48 = 0 then 1 else 0) else 0
def lkI (la t : Nat) : Int32 := if 1 < absI ((nI t - nI t / 8 * 8) - (nI la - nI la / 8 * 8)) then 0 else if 1 < absI (nI t / 8 - nI la / 8) then 0 else 1
def woI (v : SV) (t : Nat) : Int32 := if lkI v.la t = 0 then v.now - v.since t else v.now - v.since t + 5
def wcI (x : Int32) : Int32 := if x < 64 then 2 else 6
/-- a tile is put in its place among those ahead of p -/
def insF (wv : Nat → Int32) (t : Nat) : Nat → (Nat → Int32) → (Nat → Int32)
  | 0, o => upd o 0 (nI t)
  | p + 1, o => if wv (o p).toNatClampNeg < wv t then insF wv t p (upd o (p + 1) (o p)) else upd o (p + 1) (nI t)
def piF (v : SV) : Nat → Nat × (Nat → Int32) × (Nat → Int32)
  | 0 => (0, v.worths, v.order)
  | t + 1 => if v.since t = -1 then piF v t else ((piF v t).1 + 1, upd (piF v t).2.1 t (woI v t), insF (upd (piF v t).2.1 t (woI v t)) t (piF v t).1 (piF v t).2.2)
def poV (v : SV) (w o : Nat → Int32) : SV := (SV.mk9 v.near v.far v.since v.ch (w) (o) v.before v.mv v.wm v.kp v.kc v.sc v.us v.now v.la)
def piV (v : SV) (t : Nat) : SV := poV v (piF v t).2.1 (piF v t).2.2
def spV (v : SV) (t what : Nat) : SV := SV.mk9 v.near (upd v.far t (v.near t)) (upd v.since t (-1)) v.ch v.worths v.order v.before v.mv v.wm (mtP v.kp v.kc (v.near t)) (mtC v.kp v.kc (v.near t)) (upd v.sc what (v.sc what + 1)) v.us v.now v.la
def roI (v : SV) (t : Nat) : Int32 := 1000 + v.near t / 16
def srV (v : SV) (t : Nat) : SV := (SV.mk9 v.near (upd v.far t (roI v t)) v.since v.ch v.worths v.order v.before v.mv v.wm v.kp v.kc (upd v.sc 2 (v.sc 2 + 1)) v.us v.now v.la)
/-- sending a picture, roughly, a tile: what it costs and what then stands -/
def spR (v : SV) (t what : Nat) (cost left : Int32) : Int32 × SV := if left < cost then (0, v) else (cost, spV v t what)
def srR (v : SV) (t : Nat) (left : Int32) : Int32 × SV := if left < 2 then (0, v) else if v.far t = roI v t then (0, v) else (2, srV v t)
def stR (v : SV) (t : Nat) (left : Int32) : Int32 × SV := if plcF v.kp (v.near t) 0 v.kc = -1 then (if kdI v t = 2 then srR v t left else spR v t 3 (wcI (v.near t)) left) else spR v t 1 1 left
def saF (v : SV) (b : Int32) : Nat → Int32 × SV
  | 0 => (b, v)
  | p + 1 => ((saF v b p).1 - (stR (saF v b p).2 ((saF v b p).2.order p).toNatClampNeg (saF v b p).1).1, (stR (saF v b p).2 ((saF v b p).2.order p).toNatClampNeg (saF v b p).1).2)
def saR (v : SV) (b : Int32) : Int32 × SV := (b - (saF (piV v 48) b (piF v 48).1).1, (saF (piV v 48) b (piF v 48).1).2)
/-- moves are told, and forgotten -/
def afV (v : SV) (j : Nat) : SV := (SV.mk9 v.near (apF (v.mv j) v.far v.before) v.since v.ch v.worths v.order (fz_to v.far v.before 48) v.mv v.wm v.kp v.kc v.sc v.us v.now v.la)
def anV (v : SV) (j : Nat) : SV := (SV.mk9 (apF (v.mv j) v.near v.before) v.far v.since v.ch v.worths v.order (fz_to v.near v.before 48) v.mv v.wm v.kp v.kc v.sc v.us v.now v.la)
def mvU (mv : Nat → Nat → Nat) (j : Nat) (f : Nat → Nat) : Nat → Nat → Nat := fun i => if i = j then f else mv i
def fmF (mv : Nat → Nat → Nat) (told : Nat) : Nat → (Nat → Nat → Nat)
  | 0 => mv
  | k + 1 => mvU (fmF mv told k) k (fmF mv told k (told + k))
def fmV (v : SV) (told : Nat) : SV := (SV.mk9 v.near v.far v.since v.ch v.worths v.order v.before (fmF v.mv told (v.wm - told)) (v.wm - told) v.kp v.kc v.sc v.us v.now v.la)
def tlF (b : Int32) : SV → Nat → Nat → Nat × SV
  | v, told, 0 => (told, v)
  | v, told, k + 1 => if b - nI told * 2 < 2 then (told, v) else tlF b (nuV (afV v told)) (told + 1) k
def tsV (v : SV) (n : Nat) : SV := v.scS (upd v.sc 0 (v.sc 0 + nI n))
def tlV (v : SV) (b : Int32) : SV := tsV (fmV (tlF b v 0 v.wm).2 (tlF b v 0 v.wm).1) (tlF b v 0 v.wm).1
def knV (v : SV) (p : Nat → Int32) (n : Nat) : SV := (SV.mk9 v.near v.far v.since v.ch v.worths v.order v.before v.mv v.wm (p) (n) v.sc v.us v.now v.la)
def tlR (v : SV) (b : Int32) : Int32 × SV := (nI (tlF b v 0 v.wm).1 * 2, tlV v b)
def psA (v : SV) (b : Int32) : Int32 × SV := if (tlR v b).2.wm = 0 then ((tlR v b).1 + (saR (tlR v b).2 (b - (tlR v b).1)).1, (saR (tlR v b).2 (b - (tlR v b).1)).2) else tlR v b
def unV (v : SV) (x : Int32) : SV := (SV.mk9 v.near v.far v.since v.ch v.worths v.order v.before v.mv v.wm v.kp v.kc v.sc (v.us + x) (v.now + 1) v.la)
def psV (v : SV) (b : Int32) : SV := scV (unV (psA v b).2 (psA v b).1)
/-- drawing -/
def paC (p : Int32) (x row : Nat) (scr : Nat → Int32) : Nat → (Nat → Int32)
  | 0 => scr
  | c + 1 => upd (paC p x row scr c) (8 * row + (x + c)) p
def paR (p : Int32) (x y w : Nat) (scr : Nat → Int32) : Nat → (Nat → Int32)
  | 0 => scr
  | r + 1 => paC p x (y + r) (paR p x y w scr r) w
def nbV (v : SV) (n b : Nat → Int32) : SV := (SV.mk9 (n) v.far v.since v.ch v.worths v.order (b) v.mv v.wm v.kp v.kc v.sc v.us v.now v.la)
def paV (v : SV) (x y w h : Nat) (p : Int32) : SV := nuV (ncV (nbV v (paR p x y w v.near h) (fz_to v.near v.before 48)))
def mkM (x y w h tx ty : Nat) : Nat → Nat := fun k => match k with
  | 0 => x
  | 1 => y
  | 2 => w
  | 3 => h
  | 4 => tx
  | _ => ty
def shA (v : SV) (f : Nat → Nat) : SV := anV (v.mvS (mvU v.mv v.wm f)) v.wm
def shV (v : SV) (f : Nat → Nat) : SV := nuV (ncV ((shA v f).wmS (if v.wm < 4 then v.wm + 1 else v.wm)))
def coV (v u : SV) : SV := SV.mk9 (fz_to u.near v.near 48) (fz_to u.far v.far 48) (fz_to u.since v.since 48) (fz_to u.ch v.ch 48) v.worths v.order v.before (fun j => if j < u.wm then u.mv j else v.mv j) u.wm (fz_to u.kp v.kp 8) u.kc (fz_to u.sc v.sc 4) u.us u.now u.la
