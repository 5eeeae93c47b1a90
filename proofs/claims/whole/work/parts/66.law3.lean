/-! the law's world: the class with its two Senders, the answer's row, the reference -/
abbrev LW (g : GG) (f : Nat) (a d : Nat → Nat) (v u : SV) (q : Nat) (lf : Nat → Int64) (o : Nat → Nat) (w : MV) : va_W := FW g f a d v u ++ (LR g q lf :: MW g o w)
set_option maxRecDepth 100000 in
theorem fz_C.lwF {l : Launch} {g : GG} {y : MethodName} {b : ByteArray} {n : Nat} {ret : Option FieldType} {rf rl : Nat} {as : List Value} {f : Nat} {a d : Nat → Nat} {v u v1 u1 : SV} {r : Option Value} (h : fz_C l g y b n ret rf rl as (FW g f a d v u) (FW g f a d v1 u1) r) (q : Nat) (lf : Nat → Int64) (o : Nat → Nat) (w : MV) : fz_C l g y b n ret rf rl as (LW g f a d v u q lf o w) (LW g f a d v1 u1 q lf o w) r :=
  fz_C.fr h [0, 1, 2, 3, 4, 5, 6, 7, 8, 9, 10, 11, 12, 13, 14, 15, 16, 17, 18, 19, 20, 21, 22, 23, 24, 25, 26, 27, 28, 29, 30, 31, 32, 33, 34] [35, 36, 37, 38, 39, 40, 41, 42, 43, 44, 45, 46, 47, 48, 49, 50] [16, 17, 18, 19, 20, 21, 22, 23, 24, 25, 26, 27, 28, 29, 30, 31, 32, 33, 34, 35, 36, 37, 38, 39, 40, 41, 42, 43, 44, 45, 46, 47, 48, 49, 50, 0, 1, 2, 3, 4, 5, 6, 7, 8, 9, 10, 11, 12, 13, 14, 15] rfl rfl rfl rfl (by decide) rfl rfl
set_option maxRecDepth 100000 in
theorem fz_C.lwM {l : Launch} {g : GG} {y : MethodName} {b : ByteArray} {n : Nat} {ret : Option FieldType} {rf rl : Nat} {as : List Value} {o : Nat → Nat} {w w1 : MV} {r : Option Value} (h : fz_C l g y b n ret rf rl as (MW g o w) (MW g o w1) r) (f : Nat) (a d : Nat → Nat) (v u : SV) (q : Nat) (lf : Nat → Int64) : fz_C l g y b n ret rf rl as (LW g f a d v u q lf o w) (LW g f a d v u q lf o w1) r :=
  fz_C.fr h [36, 37, 38, 39, 40, 41, 42, 43, 44, 45, 46, 47, 48, 49, 50] [0, 1, 2, 3, 4, 5, 6, 7, 8, 9, 10, 11, 12, 13, 14, 15, 16, 17, 18, 19, 20, 21, 22, 23, 24, 25, 26, 27, 28, 29, 30, 31, 32, 33, 34, 35] [0, 1, 2, 3, 4, 5, 6, 7, 8, 9, 10, 11, 12, 13, 14, 15, 16, 17, 18, 19, 20, 21, 22, 23, 24, 25, 26, 27, 28, 29, 30, 31, 32, 33, 34, 35, 36, 37, 38, 39, 40, 41, 42, 43, 44, 45, 46, 47, 48, 49, 50] rfl rfl rfl rfl (by decide) rfl rfl
set_option maxRecDepth 100000 in
theorem fz_CH.lw {l : Launch} {g : GG} {y : MethodName} {b : ByteArray} {n : Nat} {hh : List (Nat × Nat × Nat × Nat)} {rf rc rs rl : Nat} {as : List Value} {f : Nat} {a d : Nat → Nat} {v u v1 u1 : SV} {q : Nat} {lf lf1 : Nat → Int64} {r : Int32} (h : fz_CH l g y b n hh rf rc rs rl as (FW g f a d v u ++ [LR g q lf]) (FW g f a d v1 u1 ++ [LR g q lf1]) r) (o : Nat → Nat) (w : MV) : fz_CH l g y b n hh rf rc rs rl as (LW g f a d v u q lf o w) (LW g f a d v1 u1 q lf1 o w) r :=
  fz_CH.frame h [0, 1, 2, 3, 4, 5, 6, 7, 8, 9, 10, 11, 12, 13, 14, 15, 16, 17, 18, 19, 20, 21, 22, 23, 24, 25, 26, 27, 28, 29, 30, 31, 32, 33, 34, 35] [36, 37, 38, 39, 40, 41, 42, 43, 44, 45, 46, 47, 48, 49, 50] [15, 16, 17, 18, 19, 20, 21, 22, 23, 24, 25, 26, 27, 28, 29, 30, 31, 32, 33, 34, 35, 36, 37, 38, 39, 40, 41, 42, 43, 44, 45, 46, 47, 48, 49, 50, 0, 1, 2, 3, 4, 5, 6, 7, 8, 9, 10, 11, 12, 13, 14] rfl rfl rfl rfl (by decide) rfl rfl
section FL
variable {p : Program} {l : Launch} {e : Env} {R : Room} {s : State} {m : MethodId} {args : Array Value} {below : List Frame} {meth : Method} {c : Code} {H : Heap} {locs : List Loc} {cells slots : Nat} {Q : State → Prop}
variable {own : String} {cc : ByteArray} {n : Nat} {ret : Option FieldType} {g : GG} {A : Nat → Prop} {ws : va_W} {pc : Nat} {ls : Array Slot} {rest : List Value} {a : Nat}
theorem fz_sx {b0 L : Nat} {xs : Nat → Int32} (X : fz_X p s m meth c own cc n ret g A) (hW : fz_W g A s ws H locs) (hX : va_X b0 L xs s s.heap) (hbl : b0 < s.heap.size) (hbA : ¬ A b0) (t : Nat) {i : Int32} (hi : i = nI t) (ht : t < L) (hL : L ≤ 3584) (hdg : decode cc pc = .ok (.iaload, 1))
    (kk : W p l e R s m args below meth c H locs cells slots Q (F0 m (pc + 1) ls (.int (xs t) :: rest))) : W p l e R s m args below meth c H locs cells slots Q (F0 m pc ls (.int i :: .ref b0 :: rest)) := by
  subst hi
  refine va_sld X.1 X.2.1 hX hbl hbA hW.2.2 (vp_in_nI ht (by omega)) hdg ?_
  rw [nI_clamp (by omega)]
  exact kk
end FL
theorem lg_same {x y : Int64} (h : x = y) : lg_cmp x y = 0 := by
  unfold lg_cmp
  rw [if_neg (fun z : x > y => by rw [h] at z; exact absurd z (by simp [Int64.lt_iff_toInt_lt])), if_pos h]
theorem ce1 {cells slots rc rs : Nat} (h : cells + 5 ≤ 601024 ∧ slots + 30 ≤ 7293034) (h1 : rc ≤ 5) (h2 : rs ≤ 30) : cells + rc ≤ room_1.cells ∧ slots + rs ≤ room_1.slots := ⟨show cells + rc ≤ 601024 by omega, show slots + rs ≤ 7293034 by omega⟩
theorem ce0 {cells slots : Nat} (h : cells + 5 ≤ 601024 ∧ slots + 30 ≤ 7293034) : cells ≤ room_1.cells ∧ slots ≤ room_1.slots := ⟨show cells ≤ 601024 by omega, show slots ≤ 7293034 by omega⟩
abbrev lo5 (b0 f o0 q i : Nat) : List (Nat × Value) := [(0, .ref b0), (1, .ref f), (2, .ref o0), (3, .ref q), (4, .int (nI i))]
theorem cd1_0 (E : String) : ¬ cd1 E = 0 := by
  unfold cd1
  decide
theorem cd2_0 (E : String) : ¬ cd2 E = 0 := by
  unfold cd2
  split <;> decide
theorem up_0 (lf : Nat → Int64) (x : Int64) : vp_updL lf 0 x 0 = x := if_pos rfl
