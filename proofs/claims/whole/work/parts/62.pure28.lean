/-! each call: both sides answer alike, and stand alike behind it -/
def cd1 (_ : String) : Int32 := 1
def cd2 (E : String) : Int32 := if E = XIO then 1 else 2
def Both (v : SV) (m : MV) (K : Nat) : Prop := Alk v m ∧ Ivm m K
def Pr (ex : Option String) (cd : String → Int32) (x b : Int32) (v v' : SV) (m' : MV) (K : Nat) : Prop := (ex = none → m'.thr = 0 ∧ x = b ∧ Both v' m' (K + 1)) ∧ ∀ E, ex = some E → m'.thr = cd E ∧ Both v m' (K + 1)
theorem ivm_up {m : MV} {K : Nat} (h : Ivm m K) (hK : K ≤ 1000) : Ivm m (K + 1) := by
  obtain ⟨h1, ⟨k, k1, k2⟩, h3, h4⟩ := h
  exact ⟨h1, ⟨k, by omega, k2⟩, h3, by omega⟩
theorem both_t {v : SV} {m : MV} {K : Nat} (h : Both v m K) (hK : K ≤ 1000) (x : Int32) : Both v (m.thrS x) (K + 1) := ⟨h.1, ivm_up h.2 hK⟩
theorem both_sok {v : SV} {m : MV} {K : Nat} (h : Both v m K) : SOK v ∧ MOKs m := by
  obtain ⟨⟨a1, a2, a3, a4, a5, a6, a7, a8, a9, a10, -⟩, -⟩ := h
  exact ⟨⟨by omega, by omega, fun j hj => (a8 j (by omega)).2.2.2.2.1⟩, a7, a10, fun j hj => ⟨_, a8 j hj⟩⟩
theorem mfl_thr (m : MV) (x y w : Nat) (q : Int32) : ∀ n, (mfl m x y w q n).thr = m.thr := by
  intro n
  induction n with
  | zero => rfl
  | succ n ih => exact ih
theorem mml_thr (m : MV) (x y w : Nat) : ∀ n, (mml m x y w n).thr = m.thr := by
  intro n
  induction n with
  | zero => rfl
  | succ n ih => exact ih
theorem okP_nat {q : Int32} (h : okP q) : ∃ k, k < 256 ∧ q = nI k := by
  obtain ⟨k, hk, e⟩ := nI_of h.1
  have h2 : nI k ≤ nI 255 := by rw [← e]; exact h.2
  exact ⟨k, Nat.lt_succ_of_le ((nI_leI hk (by omega)).mp h2), e⟩
theorem okG_nat {b : Int32} (h : okG b) : ∃ c, c ≤ 300 ∧ b = nI c := by
  obtain ⟨k, hk, e⟩ := nI_of h.1
  have h2 : nI k ≤ nI 300 := by rw [← e]; exact h.2
  exact ⟨k, (nI_leI hk (by omega)).mp h2, e⟩
theorem okT_48 {x y : Int32} (h : okT x y) : tN x y < 48 := by
  obtain ⟨i, j, -, -, hi, hj, e⟩ := okT_nat h
  omega
theorem pr_fill {v : SV} {m : MV} {K : Nat} (h : Both v m K) (hK : K ≤ 1000) (x y w z q : Int32) : Pr (exF x y w z q) cd2 (bcL (usF (paV v x.toNatClampNeg y.toNatClampNeg w.toNatClampNeg z.toNatClampNeg q) 48)) (mfR m x y w z q).1 v (paV v x.toNatClampNeg y.toNatClampNeg w.toNatClampNeg z.toNatClampNeg q) (mfR m x y w z q).2 K := by
  unfold Pr exF mfR
  by_cases a : okB x y w z
  · rw [if_pos a, if_pos a]
    by_cases b : okP q
    · rw [if_pos b, if_pos b]
      refine ⟨fun _ => ?_, fun E e => by cases e⟩
      obtain ⟨i, j, wd, hg, -, -, -, -, b1, b2, b3, b4, e1, e2, e3, e4⟩ := okB_nat a
      rw [e1, e2, e3, e4]
      obtain ⟨k, hk, ek⟩ := okP_nat b
      have ha : Alk v (m.thrS 0) := h.1
      have hi : Ivm (m.thrS 0) K := h.2
      have A : Alk (paV v i j wd hg q) (mfM m i j wd hg q) := alk_fill ha hi b1 b3
      exact ⟨mfl_thr _ _ _ _ _ _, alk_count A, A, ivm_up (ivm_fl hi hk ek _) hK⟩
    · rw [if_neg b, if_neg b]
      exact ⟨fun e => (nomatch e), fun E e => ⟨by cases e; rfl, both_t h hK 2⟩⟩
  · rw [if_neg a, if_neg a]
    exact ⟨fun e => (nomatch e), fun E e => ⟨by cases e; rfl, both_t h hK 1⟩⟩
theorem ivm_mm {m : MV} {K : Nat} {f : Nat → Nat} (h : Ivm m K) (hm : MOK f) (h1 : 1 ≤ f 2) : Ivm (mmV m f) K := by
  obtain ⟨m1, m2, m3, m4⟩ := hm
  have A : Ivm (mmA m f) K := by
    refine ivm_ml (N := f 2 * f 3) (m := mbV m m.near (8 * f 1 + f 0) (f 2) (f 2 * f 3)) h (fun j hj => ?_) (f 2 * f 3) (Nat.le_refl _)
    obtain ⟨q1, q2⟩ := blk j (f 2) (f 3) h1 hj
    show ∃ k, k < 256 ∧ fz_to (fun k => m.near (8 * f 1 + f 0 + 8 * (k / f 2) + k % f 2)) m.block (f 2 * f 3) j = nI k
    rw [fz_to_lt hj]
    exact h.1 _ (by omega)
  unfold mmV
  split
  · exact A
  · exact A
theorem mm_thr (m : MV) (f : Nat → Nat) : (mmV m f).thr = m.thr := by
  have A : (mmA m f).thr = m.thr := mml_thr _ _ _ _ _
  unfold mmV
  split
  · exact A
  · exact A
theorem pr_move {v : SV} {m : MV} {K : Nat} (h : Both v m K) (hK : K ≤ 1000) (x y w z x2 y2 : Int32) : Pr (exM x y w z x2 y2) cd2 (nI (shV v (mkM x.toNatClampNeg y.toNatClampNeg w.toNatClampNeg z.toNatClampNeg x2.toNatClampNeg y2.toNatClampNeg)).wm) (mmR m x y w z x2 y2).1 v (shV v (mkM x.toNatClampNeg y.toNatClampNeg w.toNatClampNeg z.toNatClampNeg x2.toNatClampNeg y2.toNatClampNeg)) (mmR m x y w z x2 y2).2 K := by
  unfold Pr exM mmR
  by_cases a : okB x y w z
  · rw [if_pos a, if_pos a]
    by_cases b : okB x2 y2 w z
    · rw [if_pos b, if_pos b]
      by_cases c : x = x2 ∧ y = y2
      · rw [if_pos c, if_pos c]
        exact ⟨fun e => (nomatch e), fun E e => ⟨by cases e; rfl, both_t h hK 2⟩⟩
      · rw [if_neg c, if_neg c]
        refine ⟨fun _ => ?_, fun E e => (nomatch e)⟩
        obtain ⟨i, j, wd, hg, -, -, -, -, b1, b2, b3, b4, e1, e2, e3, e4⟩ := okB_nat a
        obtain ⟨i2, j2, wd2, hg2, -, -, -, -, -, -, d3, d4, f1, f2, f3, f4⟩ := okB_nat b
        have g3 : wd2 = wd := f3.symm.trans e3
        have g4 : hg2 = hg := f4.symm.trans e4
        rw [g3] at d3
        rw [g4] at d4
        rw [e1, e2, e3, e4, f1, f2]
        have ha : Alk v (m.thrS 0) := h.1
        have hi : Ivm (m.thrS 0) K := h.2
        have hm : MOK (mkM i j wd hg i2 j2) := ⟨b3, b4, d3, d4⟩
        have h1 : 1 ≤ (mkM i j wd hg i2 j2) 2 := b1
        generalize mkM i j wd hg i2 j2 = f at *
        obtain ⟨A1, A2⟩ := alk_move ha hi hm h1
        exact ⟨mm_thr _ _, congrArg nI A2, A1, ivm_up (ivm_mm hi hm h1) hK⟩
    · rw [if_neg b, if_neg b]
      exact ⟨fun e => (nomatch e), fun E e => ⟨by cases e; rfl, both_t h hK 1⟩⟩
  · rw [if_neg a, if_neg a]
    exact ⟨fun e => (nomatch e), fun E e => ⟨by cases e; rfl, both_t h hK 1⟩⟩
theorem pr_look {v : SV} {m : MV} {K : Nat} (h : Both v m K) (hK : K ≤ 1000) (x y : Int32) : Pr (exT x y) cd1 (nI v.la) (mloR m x y).1 v (v.laS (tN x y)) (mloR m x y).2 K := by
  unfold Pr exT mloR
  by_cases a : okT x y
  · rw [if_pos a, if_pos a]
    refine ⟨fun _ => ?_, fun E e => (nomatch e)⟩
    obtain ⟨⟨a1, a2, a3, a4, a5, a6, a7, a8, a9, a10, a11, a12, a13, a14, a15, a16⟩, hi⟩ := h
    exact ⟨rfl, congrArg nI a15, ⟨a1, a2, a3, a4, a5, a6, a7, a8, a9, a10, a11, a12, a13, a14, rfl, okT_48 a⟩, ivm_up (m := (m.thrS 0).lookS (tN x y)) hi hK⟩
  · rw [if_neg a, if_neg a]
    exact ⟨fun e => (nomatch e), fun E e => ⟨rfl, both_t h hK 1⟩⟩
theorem thr_p {M : MV} {y : Int32} {m : MV} (k : Kep M m) : (M.usedS y).thr = m.thr := k.2.2.1
theorem ivm_u2 {M : MV} {y : Int32} {K : Nat} (h : Ivm M K) : Ivm (M.usedS y) K := h
theorem pr_step {v : SV} {m : MV} {K : Nat} (h : Both v m K) (hK : K ≤ 1000) (b : Int32) : Pr (exG b) cd1 (psA v b).1 (mstR m b).1 v (psV v b) (mstR m b).2 K := by
  unfold Pr exG mstR
  by_cases a : okG b
  · rw [if_pos a, if_pos a]
    refine ⟨fun _ => ?_, fun E e => (nomatch e)⟩
    have ha : Alk v (m.thrS 0) := h.1
    have hi : Ivm (m.thrS 0) K := h.2
    obtain ⟨s1, s2, s3, s4⟩ := alk_step ha hi (by omega) b
    have k := kep_p (m.thrS 0) b
    rw [s4]
    generalize mpV (m.thrS 0) b = M at *
    exact ⟨thr_p k, s1, s2, ivm_u2 s3⟩
  · rw [if_neg a, if_neg a]
    exact ⟨fun e => (nomatch e), fun E e => ⟨rfl, both_t h hK 1⟩⟩
theorem pr_ask {v : SV} {m : MV} {K : Nat} (h : Both v m K) (hK : K ≤ 1000) (x y : Int32) {f g : Nat → Int32} (e : ∀ t, t < 48 → f t = g t) : Pr (exT x y) cd1 (f (tN x y)) (maR x y g) v v (maV m x y) K := by
  unfold Pr exT maR maV
  by_cases a : okT x y
  · rw [if_pos a, if_pos a, if_pos a]
    exact ⟨fun _ => ⟨rfl, e _ (okT_48 a), both_t h hK 0⟩, fun E e => (nomatch e)⟩
  · rw [if_neg a, if_neg a, if_neg a]
    exact ⟨fun e => (nomatch e), fun E e => ⟨rfl, both_t h hK 1⟩⟩
theorem pr_kind {v : SV} {m : MV} {K : Nat} (h : Both v m K) (hK : K ≤ 1000) (x y : Int32) : Pr (exT x y) cd1 (kdI v (tN x y)) (maR x y (mkI m)) v v (maV m x y) K := pr_ask (f := kdI v) h hK x y (fun t ht => rl_kd h.1 ht)
theorem exK_in {n : Nat} {x : Int32} (hn : n ≤ 8) : (¬ x < 0 ∧ x < nI n) ↔ inI x 0 (nI n - 1) := by
  refine ⟨fun h => ?_, fun h => ?_⟩
  · obtain ⟨k, hk, e⟩ := nI_of h.1
    have h2 : nI k < nI n := by rw [← e]; exact h.2
    have h3 := (nI_ltI hk (by omega)).mp h2
    have es : nI n - 1 = nI (n - 1) := pk_sub (b := 1) (by omega)
    rw [es]
    exact ⟨Int32.not_lt.mp h.1, by rw [e]; exact (nI_leI hk (by omega)).mpr (by omega)⟩
  · obtain ⟨i, hi, e⟩ := inI_k hn h
    exact ⟨Int32.not_lt.mpr h.1, by rw [e]; exact (nI_ltI (by omega) (by omega)).mpr hi⟩
theorem pr_known {v : SV} {m : MV} {K : Nat} (h : Both v m K) (hK : K ≤ 1000) (x : Int32) : Pr (exK v.kc x) cd1 (v.kp x.toNatClampNeg) (mkR m x) v v (mkV m x) K := by
  have e9 : v.kc = m.pics := h.1.2.2.2.2.2.2.2.2.1
  have e10 : m.pics ≤ 8 := h.1.2.2.2.2.2.2.2.2.2.1
  have e11 := h.1.2.2.2.2.2.2.2.2.2.2.1
  unfold Pr exK mkR mkV
  rw [e9]
  by_cases a : inI x 0 (nI m.pics - 1)
  · rw [if_pos ((exK_in e10).mpr a), if_pos a, if_pos a]
    obtain ⟨i, hi, e⟩ := inI_k e10 a
    exact ⟨fun _ => ⟨rfl, by rw [e, nI_clamp (by omega)]; exact e11 i hi, both_t h hK 0⟩, fun E e => (nomatch e)⟩
  · rw [if_neg (fun z => a ((exK_in e10).mp z)), if_neg a, if_neg a]
    exact ⟨fun e => (nomatch e), fun E e => ⟨rfl, both_t h hK 1⟩⟩
theorem exS_in {x : Int32} : (¬ x < 0 ∧ x < 4) ↔ inI x 0 3 := by
  refine ⟨fun h => ⟨Int32.not_lt.mp h.1, i4_le.mp h.2⟩, fun h => ⟨Int32.not_lt.mpr h.1, i4_le.mpr h.2⟩⟩
theorem pr_sent {v : SV} {m : MV} {K : Nat} (h : Both v m K) (hK : K ≤ 1000) (x : Int32) : Pr (exS x) cd1 (v.sc x.toNatClampNeg) (mqR m x) v v (mqV m x) K := by
  have e12 := h.1.2.2.2.2.2.2.2.2.2.2.2.1
  unfold Pr exS mqR mqV
  by_cases a : inI x 0 3
  · rw [if_pos (exS_in.mpr a), if_pos a, if_pos a]
    obtain ⟨i, hi, e⟩ := inI_s a
    exact ⟨fun _ => ⟨rfl, by rw [e, nI_clamp (by omega)]; exact e12 i hi, both_t h hK 0⟩, fun E e => (nomatch e)⟩
  · rw [if_neg (fun z => a (exS_in.mp z)), if_neg a, if_neg a]
    exact ⟨fun e => (nomatch e), fun E e => ⟨rfl, both_t h hK 1⟩⟩
theorem pr_stg {v : SV} {m : MV} {K : Nat} (u : SV) (h : Both v m K) (hK : K ≤ 1000) (b : Int32) : Pr (exG b) cd1 (stgF b (coV u v) 0 100).1 (mgR m b).1 v v (mgR m b).2 K := by
  unfold Pr exG mgR
  by_cases a : okG b
  · rw [if_pos a, if_pos a]
    refine ⟨fun _ => ?_, fun E e => (nomatch e)⟩
    obtain ⟨c, hc, e⟩ := okG_nat a
    obtain ⟨s1, s2, s3, s4⟩ := stg_same u h.1 h.2 hc (by omega)
    rw [e]
    exact ⟨s4, s1, s2, ivm_up s3 hK⟩
  · rw [if_neg a, if_neg a]
    exact ⟨fun e => (nomatch e), fun E e => ⟨rfl, both_t h hK 1⟩⟩
theorem both_0 : Both SV0 MV0 0 := by
  refine ⟨⟨fun _ _ => rfl, fun _ _ => rfl, fun _ _ => rfl, fun _ _ => rfl, fun _ _ => ⟨0, by omega, rfl⟩, rfl, Nat.zero_le _, fun j hj => absurd hj (Nat.not_lt_zero _), rfl, Nat.zero_le _, fun j hj => absurd hj (Nat.not_lt_zero _), fun _ _ => rfl, rfl, rfl, rfl, by show 0 < 48; omega⟩, fun _ _ => ⟨0, by omega, rfl⟩, ⟨0, Nat.le_refl _, rfl⟩, fun t ht => ?_, by omega⟩
  have e : MV0.since t = fz_to (fun _ => -1) (fun _ => 0) 48 t := rfl
  rw [e, fz_to_lt ht]
  exact ⟨fun _ => rfl, fun _ => rfl⟩
