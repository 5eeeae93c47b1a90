/-! the known pictures of both sides -/
theorem mpl_cong {kp kn : Nat → Int32} (x : Int32) : ∀ (k i : Nat), (∀ j, i ≤ j → j < i + k → kp j = kn j) → mpl kp x i k = mpl kn x i k := by
  intro k
  induction k with
  | zero => intro i _; rfl
  | succ k ih =>
    intro i h
    show (if kp i = x then i else mpl kp x (i + 1) k) = (if kn i = x then i else mpl kn x (i + 1) k)
    rw [h i (Nat.le_refl _) (by omega), ih (i + 1) (fun j h1 h2 => h j (by omega) (by omega))]
theorem plcF_mpl (kp : Nat → Int32) (x : Int32) : ∀ (k i : Nat), plcF kp x i k = if mpl kp x i k = i + k then -1 else nI (mpl kp x i k) := by
  intro k
  induction k with
  | zero => intro i; exact (if_pos rfl).symm
  | succ k ih =>
    intro i
    show (if kp i = x then nI i else plcF kp x (i + 1) k) = if (if kp i = x then i else mpl kp x (i + 1) k) = i + (k + 1) then -1 else nI (if kp i = x then i else mpl kp x (i + 1) k)
    by_cases h : kp i = x
    · rw [if_pos h, if_pos h, if_neg (by omega)]
    · rw [if_neg h, if_neg h, ih (i + 1), show i + 1 + k = i + (k + 1) by omega]
theorem mkF_0 (kn : Nat → Int32) (x : Int32) : ∀ n, mkF kn x n = 0 ↔ ∀ j, j < n → ¬ kn j = x := by
  intro n
  induction n with
  | zero => exact ⟨fun _ j hj => absurd hj (Nat.not_lt_zero _), fun _ => rfl⟩
  | succ n ih =>
    show (if mkF kn x n = 0 then (if kn n = x then 1 else 0) else (1 : Int32)) = 0 ↔ _
    by_cases h : mkF kn x n = 0
    · rw [if_pos h]
      by_cases q : kn n = x
      · rw [if_pos q]
        exact ⟨fun z => absurd z (by decide), fun z => absurd q (z n (by omega))⟩
      · rw [if_neg q]
        refine ⟨fun _ j hj => ?_, fun _ => rfl⟩
        rcases (show j < n ∨ j = n by omega) with k | k
        · exact ih.mp h j k
        · rw [k]; exact q
    · rw [if_neg h]
      exact ⟨fun z => absurd z (by decide), fun z => absurd (ih.mpr (fun j hj => z j (by omega))) h⟩
theorem mpl_all (kn : Nat → Int32) (x : Int32) : ∀ (k i : Nat), mpl kn x i k = i + k ↔ ∀ j, i ≤ j → j < i + k → ¬ kn j = x := by
  intro k
  induction k with
  | zero => intro i; exact ⟨fun _ j h1 h2 => by omega, fun _ => rfl⟩
  | succ k ih =>
    intro i
    show (if kn i = x then i else mpl kn x (i + 1) k) = i + (k + 1) ↔ _
    by_cases h : kn i = x
    · rw [if_pos h]
      exact ⟨fun z => by omega, fun z => absurd h (z i (Nat.le_refl _) (by omega))⟩
    · rw [if_neg h, show i + (k + 1) = i + 1 + k by omega, ih (i + 1)]
      refine ⟨fun z j h1 h2 => ?_, fun z j h1 h2 => z j (by omega) (by omega)⟩
      rcases (show j = i ∨ i + 1 ≤ j by omega) with q | q
      · rw [q]; exact h
      · exact z j q h2
theorem nI_m1 {g : Nat} (hg : g < 2 ^ 31) : ¬ nI g = -1 := by
  intro z
  have h : ¬ nI g < 0 := Int32.not_lt.mpr ((nI_leI (a := 0) (b := g) (by omega) hg).mpr (Nat.zero_le _))
  rw [z] at h
  exact h (by decide)
theorem rk_plc {kp : Nat → Int32} {m : MV} (h3 : ∀ j, j < m.pics → kp j = m.known j) (x : Int32) : plcF kp x 0 m.pics = if meG m x = m.pics then -1 else nI (meG m x) := by
  have eg : mpl kp x 0 m.pics = meG m x := mpl_cong x m.pics 0 (fun j _ hj => h3 j (by omega))
  rw [plcF_mpl, Nat.zero_add, eg]
theorem rk_is {kp : Nat → Int32} {m : MV} (h2 : m.pics ≤ 8) (h3 : ∀ j, j < m.pics → kp j = m.known j) (x : Int32) : plcF kp x 0 m.pics = -1 ↔ mkF m.known x m.pics = 0 := by
  have hg := (mpl_in m.known x m.pics 0).2
  have hg : meG m x ≤ 0 + m.pics := hg
  have ha := mpl_all m.known x m.pics 0
  have ha : meG m x = 0 + m.pics ↔ _ := ha
  rw [Nat.zero_add] at ha
  rw [rk_plc h3, mkF_0]
  by_cases q : meG m x = m.pics
  · rw [if_pos q]
    exact ⟨fun _ j hj => ha.mp q j (Nat.zero_le _) hj, fun _ => rfl⟩
  · rw [if_neg q]
    exact ⟨fun z => absurd z (nI_m1 (by omega)), fun z => absurd (ha.mpr (fun j _ hj => z j hj)) q⟩
theorem rk_meet {kp : Nat → Int32} {m : MV} (h2 : m.pics ≤ 8) (h3 : ∀ j, j < m.pics → kp j = m.known j) (x : Int32) : mtC kp m.pics x = meC m x ∧ meC m x ≤ 8 ∧ ∀ j, j < meC m x → mtP kp m.pics x j = upd (shF m.known (meG m x) 0) 0 x j := by
  have ep := rk_plc h3 x
  have hg : meG m x ≤ 0 + m.pics := (mpl_in m.known x m.pics 0).2
  rw [Nat.zero_add] at hg
  have fin : ∀ g g' n : Nat, (∀ j, 0 < j → j < n → (if 0 < j ∧ j ≤ g then kp (j - 1) else kp j) = (if 0 < j ∧ j ≤ g' then m.known (j - 1) else m.known j)) → ∀ j, j < n → upd (shF kp g 0) 0 x j = upd (shF m.known g' 0) 0 x j := by
    intro g g' n h j hj
    by_cases z : j = 0
    · rw [z, pk_us, pk_us]
    · rw [pk_un z, pk_un z]
      exact h j (by omega) hj
  by_cases q : meG m x = m.pics
  · rw [if_pos q] at ep
    by_cases h8 : m.pics < 8
    · have e1 : mtC kp m.pics x = m.pics + 1 := by unfold mtC; rw [if_pos ep, if_pos h8]
      have e2 : meC m x = m.pics + 1 := by unfold meC meA; rw [if_pos q, if_neg (by omega)]
      have e3 : mtG kp m.pics x = m.pics := by unfold mtG; rw [if_pos ep, if_pos h8]
      refine ⟨by rw [e1, e2], by omega, ?_⟩
      unfold mtP
      rw [e2, e3, q]
      refine fin _ _ _ (fun j j0 hj => ?_)
      rw [if_pos ⟨j0, by omega⟩, if_pos ⟨j0, by omega⟩]
      exact h3 _ (by omega)
    · have e1 : mtC kp m.pics x = m.pics := by unfold mtC; rw [if_pos ep, if_neg h8]
      have e2 : meC m x = 8 := by unfold meC meA; rw [if_pos q, if_pos (by omega)]
      have e3 : mtG kp m.pics x = 7 := by unfold mtG; rw [if_pos ep, if_neg h8]
      refine ⟨by rw [e1, e2]; omega, by omega, ?_⟩
      unfold mtP
      rw [e2, e3, q]
      refine fin _ _ _ (fun j j0 hj => ?_)
      rw [if_pos ⟨j0, by omega⟩, if_pos ⟨j0, by omega⟩]
      exact h3 _ (by omega)
  · rw [if_neg q] at ep
    have hne : ¬ plcF kp x 0 m.pics = -1 := by rw [ep]; exact nI_m1 (by omega)
    have e1 : mtC kp m.pics x = m.pics := by unfold mtC; rw [if_neg hne]
    have e2 : meC m x = m.pics := by unfold meC meA; rw [if_neg q, if_neg (by omega)]
    have e3 : mtG kp m.pics x = meG m x := by unfold mtG; rw [if_neg hne, ep, nI_clamp (by omega)]
    refine ⟨by rw [e1, e2], by omega, ?_⟩
    unfold mtP
    rw [e2, e3]
    refine fin _ _ _ (fun j j0 hj => ?_)
    by_cases z : 0 < j ∧ j ≤ meG m x
    · rw [if_pos z, if_pos z]
      exact h3 _ (by omega)
    · rw [if_neg z, if_neg z]
      exact h3 _ hj
