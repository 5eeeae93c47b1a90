/-! what the reference keeps, and gives back -/
def St (u : MV) (f : Nat → Int32) (a n : Nat) : Prop := ∀ j, j < n → u.kept (a + j) = f j
def KA (m u : MV) (a : Nat) : Prop := u.at_ = a ∧ u.far = m.far ∧ u.since = m.since ∧ u.ch = m.ch ∧ u.mF = m.mF ∧ u.mT = m.mT ∧ u.mW = m.mW ∧ u.mH = m.mH ∧ u.known = m.known ∧ u.sent = m.sent ∧ u.near = m.near ∧ u.look = m.look ∧ u.thr = m.thr ∧ u.used = m.used
theorem ka_st {m u : MV} {a : Nat} (h : KA m u a) (f : Nat → Int32) (n : Nat) : KA m (kpV u f n) (a + n) := ⟨by show u.at_ + n = a + n; rw [h.1], h.2⟩
theorem st_new {m u : MV} {a : Nat} (h : KA m u a) {f f' : Nat → Int32} (e : f' = f) (n : Nat) : St (kpV u f' n) f a n := by
  intro j hj
  show kpF u.kept f' u.at_ n (a + j) = f j
  rw [h.1, (kpF_at u.kept f' a n (a + j)).1 ⟨by omega, by omega⟩, show a + j - a = j by omega, e]
theorem st_old {m u : MV} {a : Nat} (h : KA m u a) {f : Nat → Int32} {b k : Nat} (s : St u f b k) (hb : b + k ≤ a) (f' : Nat → Int32) (n : Nat) : St (kpV u f' n) f b k := by
  intro j hj
  show kpF u.kept f' u.at_ n (b + j) = f j
  rw [h.1, (kpF_at u.kept f' a n (b + j)).2 (by omega)]
  exact s j hj
theorem ka_0 (m : MV) : KA m (mka0 m) 0 := ⟨rfl, rfl, rfl, rfl, rfl, rfl, rfl, rfl, rfl, rfl, rfl, rfl, rfl, rfl⟩
theorem ka_1 (m : MV) : KA m (mka1 m) 48 ∧ St (mka1 m) m.far 0 48 := by
  have h := ka_0 m
  have e : (mka0 m).far = m.far := h.2.1
  unfold mka1
  generalize mka0 m = u at *
  exact ⟨ka_st h _ _, st_new h e 48⟩
theorem ka_2 (m : MV) : KA m (mka2 m) 96 ∧ St (mka2 m) m.far 0 48 ∧ St (mka2 m) m.since 48 48 := by
  obtain ⟨h, s1⟩ := ka_1 m
  have e : (mka1 m).since = m.since := h.2.2.1
  unfold mka2
  generalize mka1 m = u at *
  exact ⟨ka_st h _ _, st_old h s1 (by omega) _ _, st_new h e 48⟩
theorem ka_3 (m : MV) : KA m (mka3 m) 144 ∧ St (mka3 m) m.far 0 48 ∧ St (mka3 m) m.since 48 48 ∧ St (mka3 m) m.ch 96 48 := by
  obtain ⟨h, s1, s2⟩ := ka_2 m
  have e : (mka2 m).ch = m.ch := h.2.2.2.1
  unfold mka3
  generalize mka2 m = u at *
  exact ⟨ka_st h _ _, st_old h s1 (by omega) _ _, st_old h s2 (by omega) _ _, st_new h e 48⟩
theorem ka_4 (m : MV) : KA m (mka4 m) 148 ∧ St (mka4 m) m.far 0 48 ∧ St (mka4 m) m.since 48 48 ∧ St (mka4 m) m.ch 96 48 ∧ St (mka4 m) m.mF 144 4 := by
  obtain ⟨h, s1, s2, s3⟩ := ka_3 m
  have e : (mka3 m).mF = m.mF := h.2.2.2.2.1
  unfold mka4
  generalize mka3 m = u at *
  exact ⟨ka_st h _ _, st_old h s1 (by omega) _ _, st_old h s2 (by omega) _ _, st_old h s3 (by omega) _ _, st_new h e 4⟩
theorem ka_5 (m : MV) : KA m (mka5 m) 152 ∧ St (mka5 m) m.far 0 48 ∧ St (mka5 m) m.since 48 48 ∧ St (mka5 m) m.ch 96 48 ∧ St (mka5 m) m.mF 144 4 ∧ St (mka5 m) m.mT 148 4 := by
  obtain ⟨h, s1, s2, s3, s4⟩ := ka_4 m
  have e : (mka4 m).mT = m.mT := h.2.2.2.2.2.1
  unfold mka5
  generalize mka4 m = u at *
  exact ⟨ka_st h _ _, st_old h s1 (by omega) _ _, st_old h s2 (by omega) _ _, st_old h s3 (by omega) _ _, st_old h s4 (by omega) _ _, st_new h e 4⟩
theorem ka_6 (m : MV) : KA m (mka6 m) 156 ∧ St (mka6 m) m.far 0 48 ∧ St (mka6 m) m.since 48 48 ∧ St (mka6 m) m.ch 96 48 ∧ St (mka6 m) m.mF 144 4 ∧ St (mka6 m) m.mT 148 4 ∧ St (mka6 m) m.mW 152 4 := by
  obtain ⟨h, s1, s2, s3, s4, s5⟩ := ka_5 m
  have e : (mka5 m).mW = m.mW := h.2.2.2.2.2.2.1
  unfold mka6
  generalize mka5 m = u at *
  exact ⟨ka_st h _ _, st_old h s1 (by omega) _ _, st_old h s2 (by omega) _ _, st_old h s3 (by omega) _ _, st_old h s4 (by omega) _ _, st_old h s5 (by omega) _ _, st_new h e 4⟩
theorem ka_7 (m : MV) : KA m (mka7 m) 160 ∧ St (mka7 m) m.far 0 48 ∧ St (mka7 m) m.since 48 48 ∧ St (mka7 m) m.ch 96 48 ∧ St (mka7 m) m.mF 144 4 ∧ St (mka7 m) m.mT 148 4 ∧ St (mka7 m) m.mW 152 4 ∧ St (mka7 m) m.mH 156 4 := by
  obtain ⟨h, s1, s2, s3, s4, s5, s6⟩ := ka_6 m
  have e : (mka6 m).mH = m.mH := h.2.2.2.2.2.2.2.1
  unfold mka7
  generalize mka6 m = u at *
  exact ⟨ka_st h _ _, st_old h s1 (by omega) _ _, st_old h s2 (by omega) _ _, st_old h s3 (by omega) _ _, st_old h s4 (by omega) _ _, st_old h s5 (by omega) _ _, st_old h s6 (by omega) _ _, st_new h e 4⟩
theorem ka_8 (m : MV) : KA m (mka8 m) 169 ∧ St (mka8 m) m.far 0 48 ∧ St (mka8 m) m.since 48 48 ∧ St (mka8 m) m.ch 96 48 ∧ St (mka8 m) m.mF 144 4 ∧ St (mka8 m) m.mT 148 4 ∧ St (mka8 m) m.mW 152 4 ∧ St (mka8 m) m.mH 156 4 ∧ St (mka8 m) m.known 160 9 := by
  obtain ⟨h, s1, s2, s3, s4, s5, s6, s7⟩ := ka_7 m
  have e : (mka7 m).known = m.known := h.2.2.2.2.2.2.2.2.1
  unfold mka8
  generalize mka7 m = u at *
  exact ⟨ka_st h _ _, st_old h s1 (by omega) _ _, st_old h s2 (by omega) _ _, st_old h s3 (by omega) _ _, st_old h s4 (by omega) _ _, st_old h s5 (by omega) _ _, st_old h s6 (by omega) _ _, st_old h s7 (by omega) _ _, st_new h e 9⟩
theorem ka_9 (m : MV) : KA m (mka9 m) 173 ∧ St (mka9 m) m.far 0 48 ∧ St (mka9 m) m.since 48 48 ∧ St (mka9 m) m.ch 96 48 ∧ St (mka9 m) m.mF 144 4 ∧ St (mka9 m) m.mT 148 4 ∧ St (mka9 m) m.mW 152 4 ∧ St (mka9 m) m.mH 156 4 ∧ St (mka9 m) m.known 160 9 ∧ St (mka9 m) m.sent 169 4 := by
  obtain ⟨h, s1, s2, s3, s4, s5, s6, s7, s8⟩ := ka_8 m
  have e : (mka8 m).sent = m.sent := h.2.2.2.2.2.2.2.2.2.1
  unfold mka9
  generalize mka8 m = u at *
  exact ⟨ka_st h _ _, st_old h s1 (by omega) _ _, st_old h s2 (by omega) _ _, st_old h s3 (by omega) _ _, st_old h s4 (by omega) _ _, st_old h s5 (by omega) _ _, st_old h s6 (by omega) _ _, st_old h s7 (by omega) _ _, st_old h s8 (by omega) _ _, st_new h e 4⟩
def KB (w u : MV) (a : Nat) : Prop := u.at_ = a ∧ u.kept = w.kept ∧ u.near = w.near ∧ u.look = w.look ∧ u.thr = w.thr ∧ u.used = w.used ∧ u.time = w.time ∧ u.moves = w.moves ∧ u.pics = w.pics
theorem kbF_at {u : MV} {a : Nat} (h : u.at_ = a) (f : Nat → Int32) (n : Nat) : ∀ j, j < n → kbF u f n j = u.kept (a + j) := by
  intro j hj
  unfold kbF
  rw [fz_to_lt hj, h]
theorem kb_0 (w : MV) : KB w (mkb0 w) 0 := ⟨rfl, rfl, rfl, rfl, rfl, rfl, rfl, rfl, rfl⟩
theorem kb_1 (w : MV) : KB w (mkb1 w) 48 ∧ (∀ j, j < 48 → (mkb1 w).far j = w.kept (0 + j)) := by
  have h := kb_0 w
  unfold mkb1
  generalize mkb0 w = u at *
  refine ⟨⟨by show u.at_ + 48 = 48; rw [h.1], h.2⟩, fun j hj => ?_⟩
  show kbF u u.far 48 j = w.kept (0 + j)
  rw [kbF_at h.1 _ _ j hj, h.2.1]
theorem kb_2 (w : MV) : KB w (mkb2 w) 96 ∧ (∀ j, j < 48 → (mkb2 w).far j = w.kept (0 + j)) ∧ (∀ j, j < 48 → (mkb2 w).since j = w.kept (48 + j)) := by
  obtain ⟨h, s1⟩ := kb_1 w
  unfold mkb2
  generalize mkb1 w = u at *
  refine ⟨⟨by show u.at_ + 48 = 96; rw [h.1], h.2⟩, s1, fun j hj => ?_⟩
  show kbF u u.since 48 j = w.kept (48 + j)
  rw [kbF_at h.1 _ _ j hj, h.2.1]
theorem kb_3 (w : MV) : KB w (mkb3 w) 144 ∧ (∀ j, j < 48 → (mkb3 w).far j = w.kept (0 + j)) ∧ (∀ j, j < 48 → (mkb3 w).since j = w.kept (48 + j)) ∧ (∀ j, j < 48 → (mkb3 w).ch j = w.kept (96 + j)) := by
  obtain ⟨h, s1, s2⟩ := kb_2 w
  unfold mkb3
  generalize mkb2 w = u at *
  refine ⟨⟨by show u.at_ + 48 = 144; rw [h.1], h.2⟩, s1, s2, fun j hj => ?_⟩
  show kbF u u.ch 48 j = w.kept (96 + j)
  rw [kbF_at h.1 _ _ j hj, h.2.1]
theorem kb_4 (w : MV) : KB w (mkb4 w) 148 ∧ (∀ j, j < 48 → (mkb4 w).far j = w.kept (0 + j)) ∧ (∀ j, j < 48 → (mkb4 w).since j = w.kept (48 + j)) ∧ (∀ j, j < 48 → (mkb4 w).ch j = w.kept (96 + j)) ∧ (∀ j, j < 4 → (mkb4 w).mF j = w.kept (144 + j)) := by
  obtain ⟨h, s1, s2, s3⟩ := kb_3 w
  unfold mkb4
  generalize mkb3 w = u at *
  refine ⟨⟨by show u.at_ + 4 = 148; rw [h.1], h.2⟩, s1, s2, s3, fun j hj => ?_⟩
  show kbF u u.mF 4 j = w.kept (144 + j)
  rw [kbF_at h.1 _ _ j hj, h.2.1]
theorem kb_5 (w : MV) : KB w (mkb5 w) 152 ∧ (∀ j, j < 48 → (mkb5 w).far j = w.kept (0 + j)) ∧ (∀ j, j < 48 → (mkb5 w).since j = w.kept (48 + j)) ∧ (∀ j, j < 48 → (mkb5 w).ch j = w.kept (96 + j)) ∧ (∀ j, j < 4 → (mkb5 w).mF j = w.kept (144 + j)) ∧ (∀ j, j < 4 → (mkb5 w).mT j = w.kept (148 + j)) := by
  obtain ⟨h, s1, s2, s3, s4⟩ := kb_4 w
  unfold mkb5
  generalize mkb4 w = u at *
  refine ⟨⟨by show u.at_ + 4 = 152; rw [h.1], h.2⟩, s1, s2, s3, s4, fun j hj => ?_⟩
  show kbF u u.mT 4 j = w.kept (148 + j)
  rw [kbF_at h.1 _ _ j hj, h.2.1]
theorem kb_6 (w : MV) : KB w (mkb6 w) 156 ∧ (∀ j, j < 48 → (mkb6 w).far j = w.kept (0 + j)) ∧ (∀ j, j < 48 → (mkb6 w).since j = w.kept (48 + j)) ∧ (∀ j, j < 48 → (mkb6 w).ch j = w.kept (96 + j)) ∧ (∀ j, j < 4 → (mkb6 w).mF j = w.kept (144 + j)) ∧ (∀ j, j < 4 → (mkb6 w).mT j = w.kept (148 + j)) ∧ (∀ j, j < 4 → (mkb6 w).mW j = w.kept (152 + j)) := by
  obtain ⟨h, s1, s2, s3, s4, s5⟩ := kb_5 w
  unfold mkb6
  generalize mkb5 w = u at *
  refine ⟨⟨by show u.at_ + 4 = 156; rw [h.1], h.2⟩, s1, s2, s3, s4, s5, fun j hj => ?_⟩
  show kbF u u.mW 4 j = w.kept (152 + j)
  rw [kbF_at h.1 _ _ j hj, h.2.1]
theorem kb_7 (w : MV) : KB w (mkb7 w) 160 ∧ (∀ j, j < 48 → (mkb7 w).far j = w.kept (0 + j)) ∧ (∀ j, j < 48 → (mkb7 w).since j = w.kept (48 + j)) ∧ (∀ j, j < 48 → (mkb7 w).ch j = w.kept (96 + j)) ∧ (∀ j, j < 4 → (mkb7 w).mF j = w.kept (144 + j)) ∧ (∀ j, j < 4 → (mkb7 w).mT j = w.kept (148 + j)) ∧ (∀ j, j < 4 → (mkb7 w).mW j = w.kept (152 + j)) ∧ (∀ j, j < 4 → (mkb7 w).mH j = w.kept (156 + j)) := by
  obtain ⟨h, s1, s2, s3, s4, s5, s6⟩ := kb_6 w
  unfold mkb7
  generalize mkb6 w = u at *
  refine ⟨⟨by show u.at_ + 4 = 160; rw [h.1], h.2⟩, s1, s2, s3, s4, s5, s6, fun j hj => ?_⟩
  show kbF u u.mH 4 j = w.kept (156 + j)
  rw [kbF_at h.1 _ _ j hj, h.2.1]
theorem kb_8 (w : MV) : KB w (mkb8 w) 169 ∧ (∀ j, j < 48 → (mkb8 w).far j = w.kept (0 + j)) ∧ (∀ j, j < 48 → (mkb8 w).since j = w.kept (48 + j)) ∧ (∀ j, j < 48 → (mkb8 w).ch j = w.kept (96 + j)) ∧ (∀ j, j < 4 → (mkb8 w).mF j = w.kept (144 + j)) ∧ (∀ j, j < 4 → (mkb8 w).mT j = w.kept (148 + j)) ∧ (∀ j, j < 4 → (mkb8 w).mW j = w.kept (152 + j)) ∧ (∀ j, j < 4 → (mkb8 w).mH j = w.kept (156 + j)) ∧ (∀ j, j < 9 → (mkb8 w).known j = w.kept (160 + j)) := by
  obtain ⟨h, s1, s2, s3, s4, s5, s6, s7⟩ := kb_7 w
  unfold mkb8
  generalize mkb7 w = u at *
  refine ⟨⟨by show u.at_ + 9 = 169; rw [h.1], h.2⟩, s1, s2, s3, s4, s5, s6, s7, fun j hj => ?_⟩
  show kbF u u.known 9 j = w.kept (160 + j)
  rw [kbF_at h.1 _ _ j hj, h.2.1]
theorem kb_9 (w : MV) : KB w (mkb9 w) 173 ∧ (∀ j, j < 48 → (mkb9 w).far j = w.kept (0 + j)) ∧ (∀ j, j < 48 → (mkb9 w).since j = w.kept (48 + j)) ∧ (∀ j, j < 48 → (mkb9 w).ch j = w.kept (96 + j)) ∧ (∀ j, j < 4 → (mkb9 w).mF j = w.kept (144 + j)) ∧ (∀ j, j < 4 → (mkb9 w).mT j = w.kept (148 + j)) ∧ (∀ j, j < 4 → (mkb9 w).mW j = w.kept (152 + j)) ∧ (∀ j, j < 4 → (mkb9 w).mH j = w.kept (156 + j)) ∧ (∀ j, j < 9 → (mkb9 w).known j = w.kept (160 + j)) ∧ (∀ j, j < 4 → (mkb9 w).sent j = w.kept (169 + j)) := by
  obtain ⟨h, s1, s2, s3, s4, s5, s6, s7, s8⟩ := kb_8 w
  unfold mkb9
  generalize mkb8 w = u at *
  refine ⟨⟨by show u.at_ + 4 = 173; rw [h.1], h.2⟩, s1, s2, s3, s4, s5, s6, s7, s8, fun j hj => ?_⟩
  show kbF u u.sent 4 j = w.kept (169 + j)
  rw [kbF_at h.1 _ _ j hj, h.2.1]
theorem mgB_at {m u : MV} (k : Kep u (mka9 (m.thrS 0))) : (mgB m u).near = m.near ∧ (mgB m u).look = m.look ∧ (mgB m u).thr = 0 ∧ (mgB m u).used = m.used ∧ (mgB m u).time = m.time ∧ (mgB m u).moves = m.moves ∧ (mgB m u).pics = m.pics ∧ (∀ j, j < 48 → (mgB m u).far j = m.far j) ∧ (∀ j, j < 48 → (mgB m u).since j = m.since j) ∧ (∀ j, j < 48 → (mgB m u).ch j = m.ch j) ∧ (∀ j, j < 4 → (mgB m u).mF j = m.mF j) ∧ (∀ j, j < 4 → (mgB m u).mT j = m.mT j) ∧ (∀ j, j < 4 → (mgB m u).mW j = m.mW j) ∧ (∀ j, j < 4 → (mgB m u).mH j = m.mH j) ∧ (∀ j, j < 9 → (mgB m u).known j = m.known j) ∧ (∀ j, j < 4 → (mgB m u).sent j = m.sent j) := by
  obtain ⟨h, s1, s2, s3, s4, s5, s6, s7, s8, s9⟩ := ka_9 (m.thrS 0)
  have en : (mka9 (m.thrS 0)).near = m.near := h.2.2.2.2.2.2.2.2.2.2.1
  have el : (mka9 (m.thrS 0)).look = m.look := h.2.2.2.2.2.2.2.2.2.2.2.1
  have et : (mka9 (m.thrS 0)).thr = 0 := h.2.2.2.2.2.2.2.2.2.2.2.2.1
  have eu : (mka9 (m.thrS 0)).used = m.used := h.2.2.2.2.2.2.2.2.2.2.2.2.2
  obtain ⟨b, r1, r2, r3, r4, r5, r6, r7, r8, r9⟩ := kb_9 (((u.timeS m.time).movesS m.moves).picsS m.pics)
  unfold mgB
  obtain ⟨k1, k2, k3, k4, k5⟩ := k
  generalize mka9 (m.thrS 0) = M at *
  generalize mkb9 (((u.timeS m.time).movesS m.moves).picsS m.pics) = U at *
  obtain ⟨b0, b1, b2, b3, b4, b5, b6, b7, b8⟩ := b
  have e5 : (((u.timeS m.time).movesS m.moves).picsS m.pics).kept = M.kept := k5
  refine ⟨b2.trans (k1.trans en), b3.trans (k2.trans el), b4.trans (k3.trans et), b5.trans (k4.trans eu), b6, b7, b8, fun j hj => by rw [r1 j hj, e5]; exact s1 j hj, fun j hj => by rw [r2 j hj, e5]; exact s2 j hj, fun j hj => by rw [r3 j hj, e5]; exact s3 j hj, fun j hj => by rw [r4 j hj, e5]; exact s4 j hj, fun j hj => by rw [r5 j hj, e5]; exact s5 j hj, fun j hj => by rw [r6 j hj, e5]; exact s6 j hj, fun j hj => by rw [r7 j hj, e5]; exact s7 j hj, fun j hj => by rw [r8 j hj, e5]; exact s8 j hj, fun j hj => by rw [r9 j hj, e5]; exact s9 j hj⟩
theorem alk_gB {v : SV} {m u : MV} (h : Alk v m) (k : Kep u (mka9 (m.thrS 0))) : Alk v (mgB m u) := by
  obtain ⟨a1, a2, a3, a4, a5, a6, a7, a8, a9, a10, a11, a12, a13, a14, a15, a16⟩ := h
  obtain ⟨n1, n2, n3, n4, n5, n6, n7, s1, s2, s3, s4, s5, s6, s7, s8, s9⟩ := mgB_at k
  generalize mgB m u = U at *
  refine ⟨fun t ht => by rw [n1]; exact a1 t ht, fun t ht => by rw [s1 t ht]; exact a2 t ht, fun t ht => by rw [s2 t ht]; exact a3 t ht, fun t ht => by rw [s3 t ht]; exact a4 t ht, fun t ht => by rw [s3 t ht]; exact a5 t ht, by rw [n6]; exact a6, by rw [n6]; exact a7, fun j hj => ?_, by rw [n7]; exact a9, by rw [n7]; exact a10, fun j hj => ?_, fun j hj => by rw [s9 j hj]; exact a12 j hj, by rw [n4]; exact a13, by rw [n5]; exact a14, by rw [n2]; exact a15, by rw [n2]; exact a16⟩
  · rw [n6] at hj
    have k := a8 j hj
    unfold MM1 at k ⊢
    rw [s4 j (by omega), s5 j (by omega), s6 j (by omega), s7 j (by omega)]
    exact k
  · rw [n7] at hj
    rw [s8 j (by omega)]
    exact a11 j hj
theorem ivm_gB {m u : MV} {K : Nat} (h : Ivm m K) (k : Kep u (mka9 (m.thrS 0))) : Ivm (mgB m u) K := by
  obtain ⟨h1, h2, h3, h4⟩ := h
  obtain ⟨n1, n2, n3, n4, n5, n6, n7, s1, s2, s3, s4, s5, s6, s7, s8, s9⟩ := mgB_at k
  generalize mgB m u = U at *
  refine ⟨by rw [n1]; exact h1, by rw [n5]; exact h2, fun t ht => ?_, h4⟩
  rw [s1 t ht, s2 t ht, n1]
  exact h3 t ht
theorem alk_kp {v : SV} {m : MV} (h : Alk v m) (f : Nat → Int32) (n : Nat) : Alk v (kpV m f n) := h
theorem ivm_kp {m : MV} {K : Nat} (h : Ivm m K) (f : Nat → Int32) (n : Nat) : Ivm (kpV m f n) K := h
theorem alk_ka {v : SV} {m : MV} (h : Alk v m) : Alk v (mka9 (m.thrS 0)) := by
  have h0 : Alk v (mka0 (m.thrS 0)) := h
  have h1 : Alk v (mka1 (m.thrS 0)) := alk_kp h0 _ _
  have h2 : Alk v (mka2 (m.thrS 0)) := alk_kp h1 _ _
  have h3 : Alk v (mka3 (m.thrS 0)) := alk_kp h2 _ _
  have h4 : Alk v (mka4 (m.thrS 0)) := alk_kp h3 _ _
  have h5 : Alk v (mka5 (m.thrS 0)) := alk_kp h4 _ _
  have h6 : Alk v (mka6 (m.thrS 0)) := alk_kp h5 _ _
  have h7 : Alk v (mka7 (m.thrS 0)) := alk_kp h6 _ _
  have h8 : Alk v (mka8 (m.thrS 0)) := alk_kp h7 _ _
  have h9 : Alk v (mka9 (m.thrS 0)) := alk_kp h8 _ _
  exact h9
theorem ivm_ka {m : MV} {K : Nat} (h : Ivm m K) : Ivm (mka9 (m.thrS 0)) K := by
  have h0 : Ivm (mka0 (m.thrS 0)) K := h
  have h1 : Ivm (mka1 (m.thrS 0)) K := ivm_kp h0 _ _
  have h2 : Ivm (mka2 (m.thrS 0)) K := ivm_kp h1 _ _
  have h3 : Ivm (mka3 (m.thrS 0)) K := ivm_kp h2 _ _
  have h4 : Ivm (mka4 (m.thrS 0)) K := ivm_kp h3 _ _
  have h5 : Ivm (mka5 (m.thrS 0)) K := ivm_kp h4 _ _
  have h6 : Ivm (mka6 (m.thrS 0)) K := ivm_kp h5 _ _
  have h7 : Ivm (mka7 (m.thrS 0)) K := ivm_kp h6 _ _
  have h8 : Ivm (mka8 (m.thrS 0)) K := ivm_kp h7 _ _
  have h9 : Ivm (mka9 (m.thrS 0)) K := ivm_kp h8 _ _
  exact h9
/-- stepsToGo, whole -/
theorem alu_us {w : SV} {m : MV} (h : Alk w m) : Alu w m := by
  have e : w.us = m.used := h.2.2.2.2.2.2.2.2.2.2.2.2.1
  unfold Alu
  rw [e]
  exact h
theorem stg_same {v : SV} {m : MV} {K c : Nat} (u : SV) (h : Alk v m) (hi : Ivm m K) (hc : c ≤ 300) (hK : K + 102 < 2 ^ 31) : (stgF (nI c) (coV u v) 0 100).1 = (if (mgZ m (nI c)).1 ≤ 100 then nI (mgZ m (nI c)).1 else -1) ∧ Alk v (mgB m (mgZ m (nI c)).2) ∧ Ivm (mgB m (mgZ m (nI c)).2) K ∧ (mgB m (mgZ m (nI c)).2).thr = 0 := by
  have k : Kep (mgZ m (nI c)).2 (mka9 (m.thrS 0)) := kep_g (nI c) 102 0 _
  refine ⟨stg_all hc 100 0 K (coV u v) (mka9 (m.thrS 0)) rfl (alu_us (alk_co u (alk_ka h))) (ivm_ka hi) (by omega), alk_gB h k, ivm_gB hi k, (mgB_at k).2.2.1⟩
