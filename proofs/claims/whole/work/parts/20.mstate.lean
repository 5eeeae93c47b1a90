/-! the picture of the reference: its numbers and rows; and the cells that hold it -/
abbrev MV : Type := ((((((Int32) × (Int32)) × (Nat)) × (((Nat → Int32) × (Nat → Int32)) × (Nat → Int32))) × ((((Nat → Int32) × (Nat)) × (Nat → Int32)) × ((Nat → Int32) × (Nat → Int32)))) × (((((Nat → Int32) × (Nat)) × (Nat → Int32)) × ((Nat → Int32) × (Int32))) × ((((Nat → Int32) × (Nat → Int32)) × (Nat → Int32)) × ((Nat → Int32) × (Nat)))))
def MV.thr (v : MV) : Int32 := v.1.1.1.1.1
def MV.time (v : MV) : Int32 := v.1.1.1.1.2
def MV.look (v : MV) : Nat := v.1.1.1.2
def MV.near (v : MV) : Nat → Int32 := v.1.1.2.1.1
def MV.far (v : MV) : Nat → Int32 := v.1.1.2.1.2
def MV.since (v : MV) : Nat → Int32 := v.1.1.2.2
def MV.ch (v : MV) : Nat → Int32 := v.1.2.1.1.1
def MV.moves (v : MV) : Nat := v.1.2.1.1.2
def MV.mF (v : MV) : Nat → Int32 := v.1.2.1.2
def MV.mT (v : MV) : Nat → Int32 := v.1.2.2.1
def MV.mW (v : MV) : Nat → Int32 := v.1.2.2.2
def MV.mH (v : MV) : Nat → Int32 := v.2.1.1.1.1
def MV.pics (v : MV) : Nat := v.2.1.1.1.2
def MV.known (v : MV) : Nat → Int32 := v.2.1.1.2
def MV.sent (v : MV) : Nat → Int32 := v.2.1.2.1
def MV.used (v : MV) : Int32 := v.2.1.2.2
def MV.block (v : MV) : Nat → Int32 := v.2.2.1.1.1
def MV.done (v : MV) : Nat → Int32 := v.2.2.1.1.2
def MV.worth (v : MV) : Nat → Int32 := v.2.2.1.2
def MV.kept (v : MV) : Nat → Int32 := v.2.2.2.1
def MV.at_ (v : MV) : Nat := v.2.2.2.2
def MV.mk9 (thr : Int32) (time : Int32) (look : Nat) (near : Nat → Int32) (far : Nat → Int32) (since : Nat → Int32) (ch : Nat → Int32) (moves : Nat) (mF : Nat → Int32) (mT : Nat → Int32) (mW : Nat → Int32) (mH : Nat → Int32) (pics : Nat) (known : Nat → Int32) (sent : Nat → Int32) (used : Int32) (block : Nat → Int32) (done : Nat → Int32) (worth : Nat → Int32) (kept : Nat → Int32) (at_ : Nat) : MV := (((((thr, time), look), ((near, far), since)), (((ch, moves), mF), (mT, mW))), ((((mH, pics), known), (sent, used)), (((block, done), worth), (kept, at_))))
def MV.thrS (v : MV) (x : Int32) : MV := MV.mk9 x v.time v.look v.near v.far v.since v.ch v.moves v.mF v.mT v.mW v.mH v.pics v.known v.sent v.used v.block v.done v.worth v.kept v.at_
def MV.timeS (v : MV) (x : Int32) : MV := MV.mk9 v.thr x v.look v.near v.far v.since v.ch v.moves v.mF v.mT v.mW v.mH v.pics v.known v.sent v.used v.block v.done v.worth v.kept v.at_
def MV.lookS (v : MV) (x : Nat) : MV := MV.mk9 v.thr v.time x v.near v.far v.since v.ch v.moves v.mF v.mT v.mW v.mH v.pics v.known v.sent v.used v.block v.done v.worth v.kept v.at_
def MV.nearS (v : MV) (x : Nat → Int32) : MV := MV.mk9 v.thr v.time v.look x v.far v.since v.ch v.moves v.mF v.mT v.mW v.mH v.pics v.known v.sent v.used v.block v.done v.worth v.kept v.at_
def MV.farS (v : MV) (x : Nat → Int32) : MV := MV.mk9 v.thr v.time v.look v.near x v.since v.ch v.moves v.mF v.mT v.mW v.mH v.pics v.known v.sent v.used v.block v.done v.worth v.kept v.at_
def MV.sinceS (v : MV) (x : Nat → Int32) : MV := MV.mk9 v.thr v.time v.look v.near v.far x v.ch v.moves v.mF v.mT v.mW v.mH v.pics v.known v.sent v.used v.block v.done v.worth v.kept v.at_
def MV.chS (v : MV) (x : Nat → Int32) : MV := MV.mk9 v.thr v.time v.look v.near v.far v.since x v.moves v.mF v.mT v.mW v.mH v.pics v.known v.sent v.used v.block v.done v.worth v.kept v.at_
def MV.movesS (v : MV) (x : Nat) : MV := MV.mk9 v.thr v.time v.look v.near v.far v.since v.ch x v.mF v.mT v.mW v.mH v.pics v.known v.sent v.used v.block v.done v.worth v.kept v.at_
def MV.mFS (v : MV) (x : Nat → Int32) : MV := MV.mk9 v.thr v.time v.look v.near v.far v.since v.ch v.moves x v.mT v.mW v.mH v.pics v.known v.sent v.used v.block v.done v.worth v.kept v.at_
def MV.mTS (v : MV) (x : Nat → Int32) : MV := MV.mk9 v.thr v.time v.look v.near v.far v.since v.ch v.moves v.mF x v.mW v.mH v.pics v.known v.sent v.used v.block v.done v.worth v.kept v.at_
def MV.mWS (v : MV) (x : Nat → Int32) : MV := MV.mk9 v.thr v.time v.look v.near v.far v.since v.ch v.moves v.mF v.mT x v.mH v.pics v.known v.sent v.used v.block v.done v.worth v.kept v.at_
def MV.mHS (v : MV) (x : Nat → Int32) : MV := MV.mk9 v.thr v.time v.look v.near v.far v.since v.ch v.moves v.mF v.mT v.mW x v.pics v.known v.sent v.used v.block v.done v.worth v.kept v.at_
def MV.picsS (v : MV) (x : Nat) : MV := MV.mk9 v.thr v.time v.look v.near v.far v.since v.ch v.moves v.mF v.mT v.mW v.mH x v.known v.sent v.used v.block v.done v.worth v.kept v.at_
def MV.knownS (v : MV) (x : Nat → Int32) : MV := MV.mk9 v.thr v.time v.look v.near v.far v.since v.ch v.moves v.mF v.mT v.mW v.mH v.pics x v.sent v.used v.block v.done v.worth v.kept v.at_
def MV.sentS (v : MV) (x : Nat → Int32) : MV := MV.mk9 v.thr v.time v.look v.near v.far v.since v.ch v.moves v.mF v.mT v.mW v.mH v.pics v.known x v.used v.block v.done v.worth v.kept v.at_
def MV.usedS (v : MV) (x : Int32) : MV := MV.mk9 v.thr v.time v.look v.near v.far v.since v.ch v.moves v.mF v.mT v.mW v.mH v.pics v.known v.sent x v.block v.done v.worth v.kept v.at_
def MV.blockS (v : MV) (x : Nat → Int32) : MV := MV.mk9 v.thr v.time v.look v.near v.far v.since v.ch v.moves v.mF v.mT v.mW v.mH v.pics v.known v.sent v.used x v.done v.worth v.kept v.at_
def MV.doneS (v : MV) (x : Nat → Int32) : MV := MV.mk9 v.thr v.time v.look v.near v.far v.since v.ch v.moves v.mF v.mT v.mW v.mH v.pics v.known v.sent v.used v.block x v.worth v.kept v.at_
def MV.worthS (v : MV) (x : Nat → Int32) : MV := MV.mk9 v.thr v.time v.look v.near v.far v.since v.ch v.moves v.mF v.mT v.mW v.mH v.pics v.known v.sent v.used v.block v.done x v.kept v.at_
def MV.keptS (v : MV) (x : Nat → Int32) : MV := MV.mk9 v.thr v.time v.look v.near v.far v.since v.ch v.moves v.mF v.mT v.mW v.mH v.pics v.known v.sent v.used v.block v.done v.worth x v.at_
def MV.at_S (v : MV) (x : Nat) : MV := MV.mk9 v.thr v.time v.look v.near v.far v.since v.ch v.moves v.mF v.mT v.mW v.mH v.pics v.known v.sent v.used v.block v.done v.worth v.kept x
abbrev OBm (o : Nat → Nat) (m : MV) : va_E := .inr (4, [.int m.thr, .int m.time, .int (nI m.look), .ref (o 1), .ref (o 2), .ref (o 3), .ref (o 4), .int (nI m.moves), .ref (o 5), .ref (o 6), .ref (o 7), .ref (o 8), .int (nI m.pics), .ref (o 9), .ref (o 10), .int m.used, .ref (o 11), .ref (o 12), .ref (o 13), .ref (o 14), .int (nI m.at_)])
abbrev MW (g : GG) (o : Nat → Nat) (m : MV) : va_W := [(o 0, OBm o m), (o 1, .inl (g.2 0, 48, .inl m.near)), (o 2, .inl (g.2 0, 48, .inl m.far)), (o 3, .inl (g.2 0, 48, .inl m.since)), (o 4, .inl (g.2 0, 48, .inl m.ch)), (o 5, .inl (g.2 0, 4, .inl m.mF)), (o 6, .inl (g.2 0, 4, .inl m.mT)), (o 7, .inl (g.2 0, 4, .inl m.mW)), (o 8, .inl (g.2 0, 4, .inl m.mH)), (o 9, .inl (g.2 0, 9, .inl m.known)), (o 10, .inl (g.2 0, 4, .inl m.sent)), (o 11, .inl (g.2 0, 48, .inl m.block)), (o 12, .inl (g.2 1, 48, .inl m.done)), (o 13, .inl (g.2 0, 48, .inl m.worth)), (o 14, .inl (g.2 0, 300, .inl m.kept))]
def b01 (c : Prop) [Decidable c] : Int32 := if c then 1 else 0
theorem b01_01 (c : Prop) [Decidable c] : b01 c = 0 ∨ b01 c = 1 := by
  unfold b01
  split
  · exact Or.inr rfl
  · exact Or.inl rfl
theorem b01_0 {c : Prop} [Decidable c] : b01 c = 0 ↔ ¬ c := by
  unfold b01
  split
  · rename_i h
    exact ⟨fun z => absurd z (by decide), fun z => absurd h z⟩
  · rename_i h
    exact ⟨fun _ => h, fun _ => rfl⟩
abbrev inI (n lo hi : Int32) : Prop := lo ≤ n ∧ n ≤ hi
/-- the reference's steps -/
def mcV (m : MV) (t : Nat) : MV := m.sinceS (upd m.since t (if m.far t = m.near t then -1 else if m.since t = -1 then m.time else m.since t))
def mdA (m : MV) (t : Nat) (q : Int32) : MV := (MV.mk9 m.thr m.time m.look (upd m.near t q) m.far m.since (upd m.ch t (m.ch t ||| (if m.near t = q then 0 else 1))) m.moves m.mF m.mT m.mW m.mH m.pics m.known m.sent m.used m.block m.done m.worth m.kept m.at_)
def mdV (m : MV) (t : Nat) (q : Int32) : MV := mcV (mdA m t q) t
def muF (m : MV) : Nat → Int32
  | 0 => 0
  | t + 1 => muF m t + (if m.since t = -1 then 0 else 1)
def mfl (m : MV) (x y w : Nat) (q : Int32) : Nat → MV
  | 0 => m
  | k + 1 => mdV (mfl m x y w q k) (8 * (y + k / w) + x + k % w) q
def mbV (m : MV) (scr : Nat → Int32) (fr w n : Nat) : MV := m.blockS (fz_to (fun k => scr (fr + 8 * (k / w) + k % w)) m.block n)
def mml (m : MV) (x2 y2 w : Nat) : Nat → MV
  | 0 => m
  | k + 1 => mdV (mml m x2 y2 w k) (8 * (y2 + k / w) + x2 + k % w) ((mml m x2 y2 w k).block k)
def mmP (m : MV) (h : Nat → Nat) : MV := (MV.mk9 m.thr m.time m.look m.near m.far m.since m.ch (m.moves + 1) (upd m.mF m.moves (nI (8 * h 1 + h 0))) (upd m.mT m.moves (nI (8 * h 5 + h 4))) (upd m.mW m.moves (nI (h 2))) (upd m.mH m.moves (nI (h 3))) m.pics m.known m.sent m.used m.block m.done m.worth m.kept m.at_)
def mmA (m : MV) (h : Nat → Nat) : MV := mml (mbV m m.near (8 * h 1 + h 0) (h 2) (h 2 * h 3)) (h 4) (h 5) (h 2) (h 2 * h 3)
def mmV (m : MV) (h : Nat → Nat) : MV := if (mmA m h).moves < 4 then mmP (mmA m h) h else mmA m h
def mtf (m : MV) (t : Nat) (q : Int32) : MV := mcV (m.farS (upd m.far t q)) t
def mtl (m : MV) (h : Nat → Nat) : Nat → MV
  | 0 => m
  | k + 1 => mtf (mtl m h k) (8 * h 5 + h 4 + 8 * (k / h 2) + k % h 2) ((mtl m h k).block k)
def sh1 (f : Nat → Int32) (n : Nat) : Nat → Int32 := fz_to (fun j => f (j + 1)) f n
def msh (m : MV) (n : Nat) : MV := (MV.mk9 m.thr m.time m.look m.near m.far m.since m.ch m.moves (sh1 m.mF n) (sh1 m.mT n) (sh1 m.mW n) (sh1 m.mH n) m.pics m.known m.sent m.used m.block m.done m.worth m.kept m.at_)
def mtA (m : MV) (h : Nat → Nat) : MV := mtl (mbV m m.far (8 * h 1 + h 0) (h 2) (h 2 * h 3)) h (h 2 * h 3)
def mtB (m : MV) : MV := msh (m.movesS (m.moves - 1)) (m.moves - 1)
def mtC2 (m : MV) : MV := m.sentS (upd m.sent 0 (m.sent 0 + 1))
def mtV (m : MV) (h : Nat → Nat) : MV := mtC2 (mtB (mtA m h))
def mkF (kn : Nat → Int32) (x : Int32) : Nat → Int32
  | 0 => 0
  | k + 1 => if mkF kn x k = 0 then (if kn k = x then 1 else 0) else 1
theorem mkF_01 (kn : Nat → Int32) (x : Int32) : ∀ k, mkF kn x k = 0 ∨ mkF kn x k = 1 := by
  intro k
  induction k with
  | zero => exact Or.inl rfl
  | succ k ih =>
    show (if mkF kn x k = 0 then (if kn k = x then 1 else 0) else 1) = 0 ∨ (if mkF kn x k = 0 then (if kn k = x then 1 else 0) else (1 : Int32)) = 1
    split
    · split
      · exact Or.inr rfl
      · exact Or.inl rfl
    · exact Or.inr rfl
def mpl (kn : Nat → Int32) (x : Int32) : Nat → Nat → Nat
  | i, 0 => i
  | i, k + 1 => if kn i = x then i else mpl kn x (i + 1) k
theorem mpl_in (kn : Nat → Int32) (x : Int32) : ∀ k i, i ≤ mpl kn x i k ∧ mpl kn x i k ≤ i + k := by
  intro k
  induction k with
  | zero => intro i; exact ⟨Nat.le_refl _, Nat.le_refl _⟩
  | succ k ih =>
    intro i
    show i ≤ (if kn i = x then i else mpl kn x (i + 1) k) ∧ (if kn i = x then i else mpl kn x (i + 1) k) ≤ _
    split
    · exact ⟨Nat.le_refl _, by omega⟩
    · have := ih (i + 1)
      exact ⟨by omega, by omega⟩
def meG (m : MV) (x : Int32) : Nat := mpl m.known x 0 m.pics
def meA (m : MV) (x : Int32) : Nat := if meG m x = m.pics then m.pics + 1 else m.pics
def meC (m : MV) (x : Int32) : Nat := if 8 < meA m x then 8 else meA m x
def meV (m : MV) (x : Int32) : MV := (MV.mk9 m.thr m.time m.look m.near m.far m.since m.ch m.moves m.mF m.mT m.mW m.mH (meC m x) (upd (shF m.known (meG m x) 0) 0 x) m.sent m.used m.block m.done m.worth m.kept m.at_)
def mkS (x : Int32) : Nat → Int32
  | 0 => 0
  | k + 1 => mkS x k + (x >>> (nI k &&& 31) &&& 1)
def mkI (m : MV) (t : Nat) : Int32 := if mkS (m.ch t) 8 ≤ 3 then (if m.near t < 64 then 0 else 1) else 2
def mroI (m : MV) (t : Nat) : Int32 := 1000 + m.near t / 16
def mpW (m : MV) (t w : Nat) : MV := (MV.mk9 m.thr m.time m.look m.near (upd m.far t (m.near t)) (upd m.since t (-1)) m.ch m.moves m.mF m.mT m.mW m.mH (meC m (m.near t)) (upd (shF m.known (meG m (m.near t)) 0) 0 (m.near t)) (upd m.sent w (m.sent w + 1)) m.used m.block m.done m.worth m.kept m.at_)
def mrW (m : MV) (t : Nat) : MV := (MV.mk9 m.thr m.time m.look m.near (upd m.far t (mroI m t)) m.since m.ch m.moves m.mF m.mT m.mW m.mH m.pics m.known (upd m.sent 2 (m.sent 2 + 1)) m.used m.block m.done m.worth m.kept m.at_)
def mpR (m : MV) (t w : Nat) (cost left : Int32) : Int32 × MV := if left < cost then (0, m) else (cost, mpW m t w)
def mrR (m : MV) (t : Nat) (left : Int32) : Int32 × MV := if left < 2 then (0, m) else if m.far t = mroI m t then (0, m) else (2, mrW m t)
def msR (m : MV) (t : Nat) (left : Int32) : Int32 × MV := if mkF m.known (m.near t) m.pics = 0 then (if mkI m t = 2 then mrR m t left else mpR m t 3 (if mkI m t = 0 then 2 else 6) left) else mpR m t 1 1 left
def mlI (lk t : Nat) : Int32 := b01 (inI ((nI t - nI t / 8 * 8) - (nI lk - nI lk / 8 * 8)) (-1) 1 ∧ inI (nI t / 8 - nI lk / 8) (-1) 1)
def mnF (done worth : Nat → Int32) : Nat → Int32
  | 0 => -1
  | k + 1 => if done k = 0 ∧ (mnF done worth k = -1 ∨ worth (mnF done worth k).toNatClampNeg < worth k) then nI k else mnF done worth k
theorem mnF_in (done worth : Nat → Int32) : ∀ k, mnF done worth k = -1 ∨ ∃ j, j < k ∧ mnF done worth k = nI j ∧ done j = 0 := by
  intro k
  induction k with
  | zero => exact Or.inl rfl
  | succ k ih =>
    by_cases h : done k = 0 ∧ (mnF done worth k = -1 ∨ worth (mnF done worth k).toNatClampNeg < worth k)
    · exact Or.inr ⟨k, Nat.lt_succ_self _, if_pos h, h.1⟩
    · have e : mnF done worth (k + 1) = mnF done worth k := if_neg h
      rw [e]
      rcases ih with h1 | ⟨j, h1, h2, h3⟩
      · exact Or.inl h1
      · exact Or.inr ⟨j, by omega, h2, h3⟩
