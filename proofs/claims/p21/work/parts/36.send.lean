/-! the known pictures; a tile is sent, on both sides -/
theorem fpl_le (kn : Nat → Int32) (y : Int32) : ∀ k i, i ≤ fpl kn y i k ∧ fpl kn y i k ≤ i + k := by
  intro k
  induction k with
  | zero => intro i; exact ⟨Nat.le_refl _, Nat.le_refl _⟩
  | succ k ih =>
    intro i
    show i ≤ (if kn i = y then i else fpl kn y (i + 1) k) ∧ (if kn i = y then i else fpl kn y (i + 1) k) ≤ i + (k + 1)
    have := ih (i + 1)
    split <;> omega
theorem plcF_fpl (kp : Nat → Int32) (x : Int32) : ∀ (k i : Nat), plcF kp x i k = if fpl kp x i k = i + k then -1 else nI (fpl kp x i k) := by
  intro k
  induction k with
  | zero => intro i; exact (if_pos rfl).symm
  | succ k ih =>
    intro i
    show (if kp i = x then nI i else plcF kp x (i + 1) k) = if (if kp i = x then i else fpl kp x (i + 1) k) = i + (k + 1) then -1 else nI (if kp i = x then i else fpl kp x (i + 1) k)
    by_cases h : kp i = x
    · rw [if_pos h, if_pos h, if_neg (by omega)]
    · rw [if_neg h, if_neg h, ih (i + 1), show i + 1 + k = i + (k + 1) by omega]
theorem fpl_none (kn : Nat → Int32) (y : Int32) : ∀ k i, (∀ j, i ≤ j → j < i + k → ¬ kn j = y) → fpl kn y i k = i + k := by
  intro k
  induction k with
  | zero => intro i _; rfl
  | succ k ih =>
    intro i h
    show (if kn i = y then i else fpl kn y (i + 1) k) = i + (k + 1)
    rw [if_neg (h i (Nat.le_refl _) (by omega)), ih (i + 1) (fun j h1 h2 => h j (by omega) (by omega))]
    omega
theorem fpl_two {kp kn : Nat → Int32} {q : Int32} {kc : Nat} (h8 : kc ≤ 8) (h1 : ∀ k, k < kc → (kn k = q + 1 ↔ kp k = q)) (h2 : ∀ k, kc ≤ k → k < 8 → ¬ kn k = q + 1) : ∀ d i, i + d = kc → fpl kn (q + 1) i (8 - i) = if fpl kp q i d = kc then 8 else fpl kp q i d := by
  intro d
  induction d with
  | zero =>
    intro i hi
    have e : fpl kp q i 0 = i := rfl
    rw [e, if_pos (by omega), fpl_none kn (q + 1) (8 - i) i (fun j j1 j2 => h2 j (by omega) (by omega))]
    omega
  | succ d ih =>
    intro i hi
    have k := h1 i (by omega)
    rw [show 8 - i = (8 - (i + 1)) + 1 by omega]
    show (if kn i = q + 1 then i else fpl kn (q + 1) (i + 1) (8 - (i + 1))) = if (if kp i = q then i else fpl kp q (i + 1) d) = kc then 8 else (if kp i = q then i else fpl kp q (i + 1) d)
    by_cases z : kp i = q
    · rw [if_pos z, if_pos (k.mpr z), if_neg (by omega)]
    · rw [if_neg z, if_neg (fun y => z (k.mp y))]
      exact ih (i + 1) (by omega)
theorem nI_s1 {p : Nat} (hp : p < 256) : ¬ (0 : Int32) = nI p + 1 := by
  rw [nI_1]
  intro z
  have := (nI_eq (a := 0) (b := p + 1) (by omega) (by omega)).mp z
  omega
theorem rk_two {v : SV} {y : Int32} {x : LV} {T p : Nat} {q : Int32} (hr : Rel v y x) (hi : Inw v T) (hp : p < 256) (hq : q = nI p) : fpl x.kn (q + 1) 0 8 = (if fpl v.kp q 0 v.kc = v.kc then 8 else fpl v.kp q 0 v.kc) ∧ fpl v.kp q 0 v.kc ≤ v.kc ∧ plcF v.kp q 0 v.kc = if fpl v.kp q 0 v.kc = v.kc then -1 else nI (fpl v.kp q 0 v.kc) := by
  obtain ⟨r1, r2, r3, r4, r5, r6, r7, -⟩ := hr
  have e := plcF_fpl v.kp q v.kc 0
  rw [Nat.zero_add] at e
  have l := (fpl_le v.kp q v.kc 0).2
  refine ⟨fpl_two hi.2.1 (fun k hk => ?_) (fun k k1 k2 => ?_) v.kc 0 (Nat.zero_add _), by omega, e⟩
  · rw [r6 k hk]
    exact ⟨fun z => Int32.add_left_inj 1 |>.mp z, fun z => by rw [z]⟩
  · rw [r7 k k1 k2, hq]
    exact nI_s1 hp
theorem rk_A {v : SV} {y : Int32} {x : LV} {T p : Nat} {q : Int32} (hr : Rel v y x) (hi : Inw v T) (hp : p < 256) (hq : q = nI p) : meA x.kn (q + 1) = if plcF v.kp q 0 v.kc = -1 then 0 else 1 := by
  obtain ⟨e1, e2, e3⟩ := rk_two hr hi hp hq
  have h8 := hi.2.1
  unfold meA
  rw [e1, e3]
  by_cases z : fpl v.kp q 0 v.kc = v.kc
  · rw [if_pos z, if_pos z, if_pos rfl, if_pos rfl]
  · rw [if_neg z, if_neg z, if_neg (by omega), if_neg (nI_m1 (by omega))]
theorem rk_K {v : SV} {y : Int32} {x : LV} {T p : Nat} {q : Int32} (hr : Rel v y x) (hi : Inw v T) (hp : p < 256) (hq : q = nI p) : (∀ k, k < mtC v.kp v.kc q → meK x.kn (q + 1) k = mtP v.kp v.kc q k + 1) ∧ (∀ k, mtC v.kp v.kc q ≤ k → k < 8 → meK x.kn (q + 1) k = 0) ∧ mtC v.kp v.kc q ≤ 8 ∧ ∀ k, k < mtC v.kp v.kc q → ∃ j, j < 256 ∧ mtP v.kp v.kc q k = nI j := by
  obtain ⟨e1, e2, e3⟩ := rk_two hr hi hp hq
  obtain ⟨r1, r2, r3, r4, r5, r6, r7, -⟩ := hr
  have hkp := hi.2.2.2.2.2.2.2.1
  have h8 := hi.2.1
  have hN : meN x.kn (q + 1) = if fpl v.kp q 0 v.kc = v.kc then 7 else fpl v.kp q 0 v.kc := by
    unfold meN
    rw [e1]
    by_cases z : fpl v.kp q 0 v.kc = v.kc
    · rw [if_pos z, if_pos rfl, if_pos z]
    · rw [if_neg z, if_neg (by omega), if_neg z]
  have hG : mtG v.kp v.kc q = if fpl v.kp q 0 v.kc = v.kc then (if v.kc < 8 then v.kc else 7) else fpl v.kp q 0 v.kc := by
    unfold mtG
    rw [e3]
    by_cases z : fpl v.kp q 0 v.kc = v.kc
    · rw [if_pos z, if_pos rfl, if_pos z]
    · rw [if_neg z, if_neg (nI_m1 (by omega)), if_neg z, nI_clamp (by omega)]
  have hC : mtC v.kp v.kc q = if fpl v.kp q 0 v.kc = v.kc then (if v.kc < 8 then v.kc + 1 else v.kc) else v.kc := by
    unfold mtC
    rw [e3]
    by_cases z : fpl v.kp q 0 v.kc = v.kc
    · rw [if_pos z, if_pos rfl, if_pos z]
    · rw [if_neg z, if_neg (nI_m1 (by omega)), if_neg z]
  generalize fpl v.kp q 0 v.kc = g at *
  -- at the places
  have A : ∀ k, meK x.kn (q + 1) k = if k = 0 then q + 1 else if k ≤ meN x.kn (q + 1) then x.kn (k - 1) else x.kn k := fun k => by
    show upd (shF x.kn (meN x.kn (q + 1)) 0) 0 (q + 1) k = _
    by_cases z : k = 0
    · rw [if_pos z, z, pk_us]
    · rw [if_neg z, pk_un z]
      show (if 0 < k ∧ k ≤ meN x.kn (q + 1) then x.kn (k - 1) else x.kn k) = _
      by_cases y : k ≤ meN x.kn (q + 1)
      · rw [if_pos ⟨by omega, y⟩, if_pos y]
      · rw [if_neg (fun h => y h.2), if_neg y]
  have B : ∀ k, mtP v.kp v.kc q k = if k = 0 then q else if k ≤ mtG v.kp v.kc q then v.kp (k - 1) else v.kp k := fun k => by
    show upd (shF v.kp (mtG v.kp v.kc q) 0) 0 q k = _
    by_cases z : k = 0
    · rw [if_pos z, z, pk_us]
    · rw [if_neg z, pk_un z]
      show (if 0 < k ∧ k ≤ mtG v.kp v.kc q then v.kp (k - 1) else v.kp k) = _
      by_cases y : k ≤ mtG v.kp v.kc q
      · rw [if_pos ⟨by omega, y⟩, if_pos y]
      · rw [if_neg (fun h => y h.2), if_neg y]
  by_cases z : g = v.kc
  · rw [if_pos z] at hN hG hC
    by_cases c : v.kc < 8
    · rw [if_pos c] at hG hC
      refine ⟨fun k hk => ?_, fun k k1 k2 => ?_, by omega, fun k hk => ?_⟩
      · rw [A, B, hN, hG]
        by_cases w : k = 0
        · rw [if_pos w, if_pos w]
        · rw [if_neg w, if_neg w, if_pos (by omega), if_pos (by omega)]
          exact r6 _ (by omega)
      · rw [A, hN, if_neg (by omega), if_pos (by omega)]
        exact r7 _ (by omega) (by omega)
      · rw [B, hG]
        by_cases w : k = 0
        · rw [if_pos w]; exact ⟨p, hp, hq⟩
        · rw [if_neg w, if_pos (by omega)]; exact hkp _ (by omega)
    · rw [if_neg c] at hG hC
      refine ⟨fun k hk => ?_, fun k k1 k2 => by omega, by omega, fun k hk => ?_⟩
      · rw [A, B, hN, hG]
        by_cases w : k = 0
        · rw [if_pos w, if_pos w]
        · rw [if_neg w, if_neg w, if_pos (by omega), if_pos (by omega)]
          exact r6 _ (by omega)
      · rw [B, hG]
        by_cases w : k = 0
        · rw [if_pos w]; exact ⟨p, hp, hq⟩
        · rw [if_neg w, if_pos (by omega)]; exact hkp _ (by omega)
  · rw [if_neg z] at hN hG hC
    refine ⟨fun k hk => ?_, fun k k1 k2 => ?_, by omega, fun k hk => ?_⟩
    · rw [A, B, hN, hG]
      by_cases w : k = 0
      · rw [if_pos w, if_pos w]
      · rw [if_neg w, if_neg w]
        by_cases u : k ≤ g
        · rw [if_pos u, if_pos u]; exact r6 _ (by omega)
        · rw [if_neg u, if_neg u]; exact r6 _ (by omega)
    · rw [A, hN, if_neg (by omega), if_neg (by omega)]
      exact r7 _ (by omega) (by omega)
    · rw [B, hG]
      by_cases w : k = 0
      · rw [if_pos w]; exact ⟨p, hp, hq⟩
      · rw [if_neg w]
        by_cases u : k ≤ g
        · rw [if_pos u]; exact hkp _ (by omega)
        · rw [if_neg u]; exact hkp _ (by omega)
/-- the way of sending, its cost, and what then stands -/
def wtN (x : LV) (k : Nat) : Nat := if meA x.kn (x.n k + 1) = 1 then 1 else if kdL x.n x.h k = 2 then 2 else 3
def coL (x : LV) (k : Nat) : Int32 := if wtN x k < 3 then nI (wtN x k) else if kdL x.n x.h k = 1 then 6 else 2
def sxF (x : LV) (k : Nat) : LV := x.fS (upd x.f k (if wtN x k = 2 then 1000 + x.n k / 16 else x.n k))
def sxK (x : LV) (k : Nat) : LV := if wtN x k = 2 then sxF x k else (sxF x k).knS (meK x.kn (x.n k + 1))
def sxG (x : LV) (n : Nat) : LV := x.ggS (upd x.gg (4 + n) (x.gg (4 + n) + 1))
def sxV (x : LV) (k : Nat) : LV := sxG (lkV (sxK x k) k) (wtN x k)
def sxR (x : LV) (k : Nat) (c : Int32) : Int32 × LV := if c < coL x k then (0, x) else if wtN x k = 2 ∧ x.f k = 1000 + x.n k / 16 then (0, x) else (coL x k, sxV x k)
theorem kd_is {v : SV} {y : Int32} {x : LV} {t : Nat} (hr : Rel v y x) (ht : t < 48) : kdL x.n x.h t = kdI v t := by
  unfold kdL kdI
  rw [hr.1 t ht, hr.2.2.2.1 t ht]
theorem ro_all : ∀ k : Fin 256, ∃ j : Fin 16, 1000 + nI k.val / 16 = nI (1000 + j.val) := by decide +kernel
theorem inv_sp {v : SV} {y : Int32} {x : LV} {T t w : Nat} (hr : Rel v y x) (hi : Inv v T) (ht : t < 48) : Inv (spV v t w) T := by
  obtain ⟨⟨q1, q2, q3, q4, q5, q6, q7, q8, ⟨N, n1, n2, n3⟩, hT⟩, hu⟩ := id hi
  obtain ⟨p, hp, ep⟩ := q5 t ht
  obtain ⟨k1, k2, k3, k4⟩ := rk_K hr hi.1 hp ep
  refine ⟨⟨q1, k3, q3, q4, q5, fun i hi => ?_, q7, k4, ⟨N, n1, n2, fun i hi => ?_⟩, hT⟩, fun i hi => ?_⟩
  · show ∃ k, k < 2000 ∧ upd v.far t (v.near t) i = nI k
    by_cases z : i = t
    · rw [z, pk_us]; exact ⟨p, by omega, ep⟩
    · rw [pk_un z]; exact q6 i hi
  · show upd v.since t (-1) i = -1 ∨ _
    by_cases z : i = t
    · rw [z, pk_us]; exact Or.inl rfl
    · show _ ∨ ∃ k, k ≤ N ∧ upd v.since t (-1) i = nI k
      rw [pk_un z]; exact n3 i hi
  · show upd v.since t (-1) i = -1 ↔ v.near i = upd v.far t (v.near t) i
    by_cases z : i = t
    · rw [z, pk_us, pk_us]; exact ⟨fun _ => rfl, fun _ => rfl⟩
    · rw [pk_un z, pk_un z]; exact hu i hi
theorem inv_sr {v : SV} {T t : Nat} (hi : Inv v T) (ht : t < 48) (hu9 : ¬ v.since t = -1) : Inv (srV v t) T := by
  obtain ⟨⟨q1, q2, q3, q4, q5, q6, q7, q8, q9, hT⟩, hu⟩ := hi
  obtain ⟨p, hp, ep⟩ := q5 t ht
  obtain ⟨j, ej⟩ := ro_all ⟨p, hp⟩
  have er : roI v t = nI (1000 + j.val) := by
    show 1000 + v.near t / 16 = _
    rw [ep]; exact ej
  have hj := j.isLt
  refine ⟨⟨q1, q2, q3, q4, q5, fun i hi => ?_, q7, q8, q9, hT⟩, fun i hi => ?_⟩
  · show ∃ k, k < 2000 ∧ upd v.far t (roI v t) i = nI k
    by_cases z : i = t
    · rw [z, pk_us]; exact ⟨1000 + j.val, by omega, er⟩
    · rw [pk_un z]; exact q6 i hi
  · show v.since i = -1 ↔ v.near i = upd v.far t (roI v t) i
    by_cases z : i = t
    · rw [z, pk_us, er, ep]
      refine ⟨fun y => absurd y hu9, fun y => ?_⟩
      have := (nI_eq (a := p) (b := 1000 + j.val) (by omega) (by omega)).mp y
      omega
    · rw [pk_un z]; exact hu i hi
theorem lu_same (x : LV) (t : Nat) : luF x t (x.f t) = -1 := if_pos rfl
theorem gg_rel {v : SV} {x : LV} {n : Nat} (hn : n < 4) (h : ∀ k, k < 4 → x.gg (4 + k) = v.sc k) : ∀ k, k < 4 → (sxG x n).gg (4 + k) = upd v.sc n (v.sc n + 1) k := by
  intro k hk
  show upd x.gg (4 + n) (x.gg (4 + n) + 1) (4 + k) = _
  by_cases z : k = n
  · rw [z, pk_us, pk_us, h n hn]
  · rw [pk_un (by omega), pk_un z]
    exact h k hk
theorem rel_sp {v : SV} {y : Int32} {x : LV} {T t w : Nat} (hr : Rel v y x) (hi : Inv v T) (ht : t < 48) (hw : wtN x t = w) (hw2 : ¬ w = 2) (hw4 : w < 4) : Rel (spV v t w) y (sxV x t) := by
  obtain ⟨r1, r2, r3, r4, r5, r6, r7, r8, r9, r10, r11, r12⟩ := id hr
  obtain ⟨p, hp, ep⟩ := hi.1.2.2.2.2.1 t ht
  obtain ⟨k1, k2, k3, k4⟩ := rk_K hr hi.1 hp ep
  have en := r1 t ht
  have e1 : sxV x t = sxG (((x.fS (upd x.f t (x.n t))).knS (meK x.kn (x.n t + 1))).uS (upd x.u t (-1))) w := by
    unfold sxV sxK sxF
    rw [hw, if_neg hw2, if_neg hw2, lkV_eq]
    have : luF ((x.fS (upd x.f t (x.n t))).knS (meK x.kn (x.n t + 1))) t (x.n t) = -1 := by
      unfold luF
      exact if_pos (show x.n t = upd x.f t (x.n t) t from pk_us.symm)
    show sxG (((x.fS (upd x.f t (x.n t))).knS (meK x.kn (x.n t + 1))).uS (upd x.u t (luF ((x.fS (upd x.f t (x.n t))).knS (meK x.kn (x.n t + 1))) t (x.n t)))) w = _
    rw [this]
  rw [e1]
  have eg : ∀ j, j < 4 → (sxG (((x.fS (upd x.f t (x.n t))).knS (meK x.kn (x.n t + 1))).uS (upd x.u t (-1))) w).gg j = x.gg j := fun j hj => pk_un (by omega)
  refine ⟨r1, up_eq r2 en, up_eq r3 rfl, r4, r5, ?_, ?_, (eg 0 (by omega)).trans r8, (eg 1 (by omega)).trans r9, (eg 2 (by omega)).trans r10, (eg 3 (by omega)).trans r11, gg_rel hw4 r12⟩
  · show ∀ k, k < mtC v.kp v.kc (v.near t) → meK x.kn (x.n t + 1) k = mtP v.kp v.kc (v.near t) k + 1
    rw [en]; exact k1
  · show ∀ k, mtC v.kp v.kc (v.near t) ≤ k → k < 8 → meK x.kn (x.n t + 1) k = 0
    rw [en]; exact k2
theorem rel_sr {v : SV} {y : Int32} {x : LV} {T t : Nat} (hr : Rel v y x) (hi : Inv v T) (ht : t < 48) (hu9 : ¬ v.since t = -1) (hw : wtN x t = 2) : Rel (srV v t) y (sxV x t) := by
  obtain ⟨r1, r2, r3, r4, r5, r6, r7, r8, r9, r10, r11, r12⟩ := id hr
  obtain ⟨p, hp, ep⟩ := hi.1.2.2.2.2.1 t ht
  obtain ⟨j, ej⟩ := ro_all ⟨p, hp⟩
  have hj := j.isLt
  have en : x.n t = nI p := (r1 t ht).trans ep
  have er : 1000 + x.n t / 16 = roI v t := by
    show _ = 1000 + v.near t / 16
    rw [r1 t ht]
  have e1 : sxV x t = sxG ((x.fS (upd x.f t (roI v t))).uS (upd x.u t (x.u t))) 2 := by
    unfold sxV sxK sxF
    rw [hw, if_pos rfl, if_pos rfl, lkV_eq, er]
    have : luF (x.fS (upd x.f t (roI v t))) t (x.n t) = x.u t := by
      unfold luF
      have ne : ¬ x.n t = upd x.f t (roI v t) t := by
        rw [pk_us, ← er, en]
        have ej : 1000 + nI p / 16 = nI (1000 + j.val) := ej
        rw [ej]
        intro z
        have := (nI_eq (a := p) (b := 1000 + j.val) (by omega) (by omega)).mp z
        omega
      have ge : 0 ≤ x.u t := by
        rw [r3 t ht]
        exact (inv_ge hi.1 ht).mpr hu9
      exact (if_neg ne).trans (if_pos ge)
    show sxG ((x.fS (upd x.f t (roI v t))).uS (upd x.u t (luF (x.fS (upd x.f t (roI v t))) t (x.n t)))) 2 = _
    rw [this]
  rw [e1, upd_id]
  have eg : ∀ j, j < 4 → (sxG ((x.fS (upd x.f t (roI v t))).uS x.u) 2).gg j = x.gg j := fun j hj => pk_un (by omega)
  exact ⟨r1, up_eq r2 rfl, r3, r4, r5, r6, r7, (eg 0 (by omega)).trans r8, (eg 1 (by omega)).trans r9, (eg 2 (by omega)).trans r10, (eg 3 (by omega)).trans r11, gg_rel (by omega) r12⟩
theorem rel_st {v : SV} {y : Int32} {x : LV} {T t : Nat} (hr : Rel v y x) (hi : Inv v T) (ht : t < 48) (hu9 : ¬ v.since t = -1) (c : Int32) : (stR v t c).1 = (sxR x t c).1 ∧ Rel (stR v t c).2 y (sxR x t c).2 ∧ Inv (stR v t c).2 T := by
  obtain ⟨p, hp, ep⟩ := hi.1.2.2.2.2.1 t ht
  have hA := rk_A hr hi.1 hp ep
  have en := hr.1 t ht
  have ek := kd_is hr ht
  rw [← en] at hA
  unfold stR sxR
  by_cases a : plcF v.kp (v.near t) 0 v.kc = -1
  · rw [if_pos a]
    rw [en, if_pos a] at hA
    by_cases b : kdI v t = 2
    · have hw : wtN x t = 2 := by
        unfold wtN
        rw [en, hA, if_neg (by decide), ek, if_pos b]
      have hc : coL x t = 2 := by
        unfold coL
        rw [hw]
        rfl
      have er : 1000 + x.n t / 16 = roI v t := by
        show _ = 1000 + v.near t / 16
        rw [en]
      rw [if_pos b, hc, hw, er, hr.2.1 t ht]
      unfold srR
      by_cases z : c < 2
      · rw [if_pos z, if_pos z]; exact ⟨rfl, hr, hi⟩
      · rw [if_neg z, if_neg z]
        by_cases q : v.far t = roI v t
        · rw [if_pos q, if_pos ⟨rfl, q⟩]; exact ⟨rfl, hr, hi⟩
        · rw [if_neg q, if_neg (fun h => q h.2)]
          exact ⟨rfl, rel_sr hr hi ht hu9 hw, inv_sr hi ht hu9⟩
    · have hw : wtN x t = 3 := by
        unfold wtN
        rw [en, hA, if_neg (by decide), ek, if_neg b]
      have hc : coL x t = wcI (v.near t) := by
        unfold coL
        rw [hw, if_neg (by decide), ek]
        have n4 : bcI (v.ch t) < 4 := Classical.byContradiction (fun z => b (kd_2.mpr z))
        unfold kdI wcI
        rw [if_pos n4]
        by_cases q : v.near t < 64
        · rw [if_pos q, if_pos q]; rfl
        · rw [if_neg q, if_neg q]; rfl
      rw [if_neg b, hc, hw]
      unfold spR
      by_cases z : c < wcI (v.near t)
      · rw [if_pos z, if_pos z]; exact ⟨rfl, hr, hi⟩
      · rw [if_neg z, if_neg z, if_neg (fun h => absurd h.1 (by decide))]
        exact ⟨rfl, rel_sp hr hi ht hw (by decide) (by decide), inv_sp hr hi ht⟩
  · rw [if_neg a]
    rw [en, if_neg a] at hA
    have hw : wtN x t = 1 := by
      unfold wtN
      rw [en, hA, if_pos rfl]
    have hc : coL x t = 1 := by
      unfold coL
      rw [hw]
      rfl
    rw [hc, hw]
    unfold spR
    by_cases z : c < 1
    · rw [if_pos z, if_pos z]; exact ⟨rfl, hr, hi⟩
    · rw [if_neg z, if_neg z, if_neg (fun h => absurd h.1 (by decide))]
      exact ⟨rfl, rel_sp hr hi ht hw (by decide) (by decide), inv_sp hr hi ht⟩
