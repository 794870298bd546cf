/-! THE INVARIANT between the class's memory and the reference's -/
/-- hills: what both were told, and that it is in range -/
def iH (s : ac_m) : Prop :=
  (0 ≤ s 73 0 ∧ s 73 0 ≤ 6 ∧ 0 ≤ s 73 1 ∧ s 73 1 ≤ 12 ∧ 0 ≤ s 73 2 ∧ s 73 2 ≤ 10) ∧ (s 3 10 = s 73 0 ∧ s 3 11 = s 73 1 ∧ s 3 12 = s 73 2)
  ∧ (∀ f, f < 6 → (nI f < s 73 0 → s 4 f = s (82 + f) 0 ∧ s 5 f = s (82 + f) 1 ∧ 0 ≤ s 4 f ∧ s 4 f ≤ 99 ∧ 0 ≤ s 5 f ∧ s 5 f ≤ 9) ∧ (s 73 0 ≤ nI f → s 4 f = 0 ∧ s 5 f = 0))
  ∧ (∀ b, b < 13 → (nI b < s 73 1 → s 6 b = s (102 + b) 0 ∧ s 7 b = s (102 + b) 1 ∧ s 8 b = s (102 + b) 2 ∧ s 9 b = s (102 + b) 3 ∧ 0 ≤ s 6 b ∧ s 6 b < s 73 0 ∧ 0 ≤ s 7 b ∧ s 7 b < s 73 0 ∧ s 6 b ≠ s 7 b ∧ 0 ≤ s 8 b ∧ s 8 b ≤ 5 ∧ 1 ≤ s 9 b ∧ s 9 b ≤ 30) ∧ (s 73 1 ≤ nI b → s 6 b = 0 ∧ s 7 b = 0 ∧ s 8 b = 0 ∧ s 9 b = 0))
  ∧ (∀ e, e < 10 → nI e < s 73 2 → s 10 e = s (127 + e) 0 ∧ s 11 e = s (127 + e) 1 ∧ s 12 e = s (127 + e) 2 ∧ 0 ≤ s 10 e ∧ s 10 e ≤ 5 ∧ 0 ≤ s 11 e ∧ s 11 e ≤ 5 ∧ s 10 e ≠ s 11 e ∧ 1 ≤ s 12 e ∧ s 12 e ≤ 9)
/-- the meadow at a and the reference's row r are alike -/
def iM (s : ac_m) (a r : Nat) : Prop :=
  (∀ b, b < 13 → s (a + 2) b = s r b ∧ s (a + 4) b = s r (13 + b) ∧ s (a + 3) b = s r (26 + b)) ∧ (∀ f, f < 6 → s (a + 1) f = s r (39 + f)) ∧ (∀ k, k < 36 → s (a + 5) k = s r (45 + k)) ∧ s a 11 = s r 81 ∧ s a 10 = s r 82
/-- a row that can be: F folk -/
def vM (F : Int32) (x : Nat → Int32) : Prop :=
  (∀ b, b < 13 → (x b = 0 ∧ x (13 + b) = 0 ∧ x (26 + b) = -1) ∨ (1 ≤ x b ∧ x b ≤ 30 ∧ 0 ≤ x (26 + b) ∧ x (26 + b) < F)) ∧ (∀ f, f < 6 → 0 ≤ x (39 + f) ∧ x (39 + f) ≤ 99 ∧ (F ≤ nI f → x (39 + f) = 0))
  ∧ (∀ i j, i < 6 → j < 6 → x (45 + (6 * i + j)) = x (45 + (6 * j + i)) ∧ 0 ≤ x (45 + (6 * i + j)) ∧ x (45 + (6 * i + j)) ≤ 9 ∧ (i = j → x (45 + (6 * i + j)) = 0) ∧ (F ≤ nI i → x (45 + (6 * i + j)) = 0)) ∧ 0 ≤ x 82 ∧ x 82 ≤ 400
/-- no beast is there that was not told -/
def vB (B : Int32) (x : Nat → Int32) : Prop := ∀ b, b < 13 → B ≤ nI b → x b = 0
/-- a law's piece in the reference, and in the class -/
def lc (a v : Int32) : Int32 := if a = 0 then v else if a = 1 then -1 - v else -7 - a
def lOK (a v : Int32) : Prop := (a = 0 ∧ 0 ≤ v ∧ v ≤ 999) ∨ (a = 1 ∧ 0 ≤ v ∧ v ≤ 7) ∨ (2 ≤ a ∧ a ≤ 8)
/-- how high the stack stands ahead of the k-th piece -/
def lH (w : Nat → Int32) : Nat → Int
  | 0 => 0
  | k + 1 => if w k < 2 then lH w k + 1 else lH w k - 1
def iL (s : ac_m) : Prop :=
  (s 69 19 = 0 ∧ s 25 3 = 5 ∧ s 26 0 = 1 ∧ s 26 1 = -1 ∧ s 26 2 = 10 ∧ s 26 3 = -12 ∧ s 26 4 = -9) ∨
  ∃ n : Nat, 1 ≤ n ∧ n ≤ 150 ∧ s 69 19 = nI n ∧ s 25 3 = nI n ∧ (∀ k, k < n → lOK (s (138 + k) 0) (s (138 + k) 1) ∧ s 26 k = lc (s (138 + k) 0) (s (138 + k) 1) ∧ (2 ≤ s (138 + k) 0 → 2 ≤ lH (fun j => s (138 + j) 0) k)) ∧ lH (fun j => s (138 + j) 0) n = 1
def iB (s : ac_m) : Prop :=
  s 33 1 = s 69 34 ∧ 0 ≤ s 69 34 ∧ s 69 34 ≤ 6 ∧ (∀ k, k < 6 → nI k < s 69 34 → 1 ≤ s (460 + k) 0 ∧ s (460 + k) 0 ≤ 12 ∧ 0 ≤ s (460 + k) 1 ∧ s (460 + k) 1 ≤ 99 ∧ s 34 (s (460 + k) 0).toNatClampNeg = s (460 + k) 1)
  ∧ (∀ e, e < 13 → s 34 e = -1 ∨ ∃ k, k < 6 ∧ nI k < s 69 34 ∧ s (460 + k) 0 = nI e ∧ s (460 + k) 1 = s 34 e)
def iT (s : ac_m) : Prop := s 1 1 = s 69 1 ∧ 0 ≤ s 69 1 ∧ s 69 1 ≤ 600 ∧ (∀ j, j < 600 → nI j < s 69 1 → 0 ≤ s 70 j ∧ s 70 j ≤ 255 ∧ s 2 j = (s 70 j).toInt8.toInt32)
/-- a stored meadow of the class (from place p of its row x on) and a row of the reference (from q of y on) -/
def iS (x : Nat → Int32) (p : Nat) (y : Nat → Int32) (q : Nat) : Prop :=
  (∀ b, b < 13 → x (p + (6 + b)) = y (q + b) ∧ x (p + (32 + b)) = y (q + (13 + b)) ∧ x (p + (19 + b)) = y (q + (26 + b))) ∧ (∀ f, f < 6 → x (p + f) = y (q + (39 + f))) ∧ (∀ k, k < 36 → x (p + (45 + k)) = y (q + (45 + k))) ∧ x (p + 82) = y (q + 81) ∧ x (p + 81) = y (q + 82)
def iP (s : ac_m) : Prop :=
  s 58 3 = s 69 35 ∧ 0 ≤ s 69 35 ∧ s 69 35 ≤ 16 ∧ s 58 4 = s 69 37 ∧ 0 ≤ s 69 37 ∧ s 69 37 ≤ 3
  ∧ (∀ w, w < 16 → iS (s 59) (83 * w) (s (560 + w)) 0 ∧ (nI w < s 69 35 → vM (s 73 0) (s (560 + w)) ∧ vB (s 73 1) (s (560 + w))))
  ∧ (∀ i, i < 3 → nI i < s 69 37 → s 61 i = s (577 + i) 0 ∧ 0 ≤ s 61 i ∧ s 61 i ≤ 16 ∧ iS (s 60) (1411 * i + 1328) (s (577 + i)) 1 ∧ vM (s 73 0) (fun k => s (577 + i) (1 + k)) ∧ vB (s 73 1) (fun k => s (577 + i) (1 + k))
    ∧ ∀ w, w < 16 → iS (s 60) (1411 * i + 83 * w) (s (577 + i)) (84 + 83 * w) ∧ (nI w < s 61 i → vM (s 73 0) (fun k => s (577 + i) (84 + 83 * w + k)) ∧ vB (s 73 1) (fun k => s (577 + i) (84 + 83 * w + k))))
def iX (s : ac_m) : Prop := s 1 6 = s 69 3 ∧ s 0 14 = s 69 36 ∧ s 0 15 = s 71 0 ∧ s 0 16 = s 71 1
def Inv (s : ac_m) : Prop := iH s ∧ iM s 42 556 ∧ vM (s 73 0) (s 556) ∧ vB (s 73 1) (s 556) ∧ iL s ∧ iB s ∧ iT s ∧ iP s ∧ iX s
/-- what a question may change: rows that are written anew each time they are used -/
def isScr (a : Nat) : Bool := a == 13 || a == 27 || a == 28 || a == 48 || a == 49 || (decide (50 ≤ a) && decide (a ≤ 57)) || (decide (62 ≤ a) && decide (a ≤ 69)) || a == 114 || a == 473 || a == 474 || a == 557 || a == 558 || (decide (580 ≤ a) && decide (a ≤ 585))
def isS69 (k : Nat) : Bool := k == 0 || k == 38 || k == 46
def kp (s s' : ac_m) : Prop := (∀ a, isScr a = false → s' a = s a) ∧ ∀ k, isS69 k = false → s' 69 k = s 69 k
theorem kp.refl (s : ac_m) : kp s s := ⟨fun _ _ => rfl, fun _ _ => rfl⟩
theorem kp.trans {s t u : ac_m} (h : kp s t) (h2 : kp t u) : kp s u := ⟨fun a ha => (h2.1 a ha).trans (h.1 a ha), fun k hk => (h2.2 k hk).trans (h.2 k hk)⟩
theorem kp.u {s t : ac_m} {a k : Nat} {x : Int32} (h : kp s t) (ha : isScr a = true) (hk : a = 69 → isS69 k = true) : kp s (ac_u t a k x) := by
  refine ⟨fun b hb => ?_, fun j hj => ?_⟩
  · rw [u_ne (fun e => by rw [e, ha] at hb; cases hb)]
    exact h.1 b hb
  · by_cases e : a = 69
    · subst e
      rw [u_at (fun e => by rw [e, hk rfl] at hj; cases hj)]
      exact h.2 j hj
    · rw [u_ne (fun z => e z.symm)]
      exact h.2 j hj
theorem scr_row {b n : Nat} (h : ∀ j, j < n → isScr (b + j) = false) {s s' : ac_m} (k : kp s s') {j : Nat} (hj : j < n) : s' (b + j) = s (b + j) := k.1 _ (h j hj)
