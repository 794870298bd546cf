/-! WORDS -/
theorem six3 {a b c v : Int32} {Q : Int32 → ac_m → Prop} {s : ac_m} (e : 27 * (27 * a + b) + c = v) (h : Q v s) : w_X12_six a b c 0 0 0 Q s := by
  subst e; unfold w_X12_six
  exact ⟨fun z => absurd rfl z, fun _ => ⟨fun z => absurd rfl z, fun _ => ⟨fun z => absurd rfl z, fun _ => h⟩⟩⟩
theorem six4 {a b c d v : Int32} {Q : Int32 → ac_m → Prop} {s : ac_m} (hd : ¬ d = 0) (e : 27 * (27 * (27 * a + b) + c) + d = v) (h : Q v s) : w_X12_six a b c d 0 0 Q s := by
  subst e; unfold w_X12_six
  exact ⟨fun _ y hy => ⟨fun z => absurd rfl z, fun _ => ⟨fun z => absurd rfl z, fun _ => by rw [hy]; exact h⟩⟩, fun z => absurd z hd⟩
theorem six5 {a b c d f v : Int32} {Q : Int32 → ac_m → Prop} {s : ac_m} (hd : ¬ d = 0) (hf : ¬ f = 0) (e : 27 * (27 * (27 * (27 * a + b) + c) + d) + f = v) (h : Q v s) : w_X12_six a b c d f 0 Q s := by
  subst e; unfold w_X12_six
  exact ⟨fun _ y hy => ⟨fun _ => ⟨fun z => absurd rfl z, fun _ => by rw [hy]; exact h⟩, fun z => absurd z hf⟩, fun z => absurd z hd⟩
theorem six6 {a b c d f g v : Int32} {Q : Int32 → ac_m → Prop} {s : ac_m} (hd : ¬ d = 0) (hf : ¬ f = 0) (hg : ¬ g = 0) (e : 27 * (27 * (27 * (27 * (27 * a + b) + c) + d) + f) + g = v) (h : Q v s) : w_X12_six a b c d f g Q s := by
  subst e; unfold w_X12_six
  exact ⟨fun _ y hy => ⟨fun _ => ⟨fun _ => by rw [hy]; exact h, fun z => absurd z hg⟩, fun z => absurd z hf⟩, fun z => absurd z hd⟩
theorem c_wordQ {t : Nat → Nat} {n p q i : Nat} {Q : Int32 → ac_m → Prop} {s : ac_m} (T : CT s t n) (hp : p ≤ n) (hq : skb t n p = q) (e3 : s 1 3 = nI p) (hl : (ac_sb i).length ≤ 100)
    (h1 : wdA t n q i → ∀ s', mv s s' (q + (ac_sb i).length) q → Q 1 s') (h0 : ¬ wdA t n q i → ∀ s', mv s s' q q → Q 0 s') : w_X10_passesWord i Q s := by
  subst hq; exact c_word T hp e3 hl h1 h0
theorem m_isWordQ {t : Nat → Nat} {n p q i : Nat} {D : List Nat} {a b c d e f : Int32} {Q : Int32 → ac_m → Prop} {s : ac_m} (T : MT s t n) (hp : p ≤ n) (hq : skb t n p = q) (e4 : s 69 4 = nI p) (e5 : s 69 5 = 0) (w : isW i D)
    (hs : ∀ (Q : Int32 → ac_m → Prop) s, Q (nI (cdF (fun k => D.getD k 0) D.length)) s → w_X12_six a b c d e f Q s)
    (h1 : wdA t n q i → ∀ s', mvM s s' q → Q 1 s') (h0 : ¬ wdA t n q i → ∀ s', mvM s s' q → Q 0 s') : w_X12_isWord a b c d e f Q s := by
  subst hq; exact m_isWord T hp e4 e5 w hs h1 h0
theorem wd_len {t : Nat → Nat} {n q i : Nat} {D : List Nat} (T : okT t n) (w : isW i D) (h : wdA t n q i) : rl t n q = (ac_sb i).length := by rw [w.1]; exact ((wdA_rl T w).1 h).1
theorem m_takesQ {t : Nat → Nat} {n p q i : Nat} {D : List Nat} {a b c d e f : Int32} {Q : Int32 → ac_m → Prop} {s : ac_m} (T : MT s t n) (hp : p ≤ n) (hq : skb t n p = q) (e4 : s 69 4 = nI p) (e5 : s 69 5 = 0) (w : isW i D)
    (hs : ∀ (Q : Int32 → ac_m → Prop) s, Q (nI (cdF (fun k => D.getD k 0) D.length)) s → w_X12_six a b c d e f Q s)
    (h1 : wdA t n q i → ∀ s', mvM s s' (q + (ac_sb i).length) → Q 1 s') (h0 : ¬ wdA t n q i → ∀ s', mvM s s' q → Q 0 s') : w_X12_takes a b c d e f Q s := by
  have sk := skb_le' (t := t) hp
  unfold w_X12_takes
  refine m_isWordQ T hp hq e4 e5 w hs (fun y s1 m1 => m_if1B ?_) (fun y s1 m1 => m_if0B ⟨bo_0, h0 y s1 m1⟩)
  refine m_skipWord (MT_mv T m1) (p := q) (by rw [← hq]; exact sk.2.1) m1.2.2 (fun s2 m2 => ⟨bo_1, h1 y s2 ?_⟩)
  rw [wd_len T.2.1 w y] at m2
  exact m1.trans m2
theorem skq {t : Nat → Nat} {n p q : Nat} (hp : p ≤ n) (hq : skb t n p = q) : q ≤ n ∧ p ≤ q ∧ skb t n q = q := by
  have sk := skb_le' (t := t) hp
  rw [hq] at sk
  exact ⟨sk.2.1, sk.1, skb_0 sk.2.2⟩
theorem wd_sml {t : Nat → Nat} {n q i : Nat} {D : List Nat} (T : okT t n) (w : isW i D) (hD : 0 < D.length) (h : wdA t n q i) : sml (ch t n q) := by
  have e := wd_len T w h
  rcases Classical.em (sml (ch t n q)) with c | c
  · exact c
  · rw [rl_0 c, w.1] at e; omega
theorem wd_le {t : Nat → Nat} {n q i : Nat} {D : List Nat} (T : okT t n) (w : isW i D) (hq : q ≤ n) (h : wdA t n q i) : q + (ac_sb i).length ≤ n := by
  rw [← wd_len T w h]; exact rl_le hq
theorem wd1 : isW 1 [6, 15, 12, 11] := by unfold isW; decide +kernel
theorem wd2 : isW 2 [2, 5, 1, 19, 20] := by unfold isW; decide +kernel
theorem wd3 : isW 3 [6, 1, 9, 18] := by unfold isW; decide +kernel
theorem wd4 : isW 4 [12, 5, 1, 19, 20] := by unfold isW; decide +kernel
theorem wd5 : isW 5 [13, 15, 19, 20] := by unfold isW; decide +kernel
theorem wd6 : isW 6 [23, 5, 9, 7, 8, 20] := by unfold isW; decide +kernel
theorem wd7 : isW 7 [11, 9, 14, 4] := by unfold isW; decide +kernel
theorem wd8 : isW 8 [1, 7, 5] := by unfold isW; decide +kernel
theorem wd9 : isW 9 [7, 18, 1, 19, 19] := by unfold isW; decide +kernel
theorem wd10 : isW 10 [15, 20, 8, 5, 18, 19] := by unfold isW; decide +kernel
theorem wd11 : isW 11 [3, 15, 15, 12] := by unfold isW; decide +kernel
theorem wd12 : isW 12 [4, 1, 25] := by unfold isW; decide +kernel
theorem wd13 : isW 13 [2, 5, 1, 19, 20] := by unfold isW; decide +kernel
theorem wd14 : isW 14 [1, 19, 11] := by unfold isW; decide +kernel
theorem wd15 : isW 15 [4, 18, 9, 22, 5] := by unfold isW; decide +kernel
theorem wd16 : isW 16 [11, 9, 12, 12] := by unfold isW; decide +kernel
theorem wd17 : isW 17 [4, 15] := by unfold isW; decide +kernel
theorem wd18 : isW 18 [8, 1, 25] := by unfold isW; decide +kernel
theorem wd19 : isW 19 [4, 1, 25] := by unfold isW; decide +kernel
theorem wd20 : isW 20 [1, 7, 1, 9, 14] := by unfold isW; decide +kernel
theorem c_factL {t : Nat → Nat} {n p q : Nat} {Q : Int32 → ac_m → Prop} {s : ac_m} (T : CT s t n) (hp : p ≤ n) (hq : skb t n p = q) (e3 : s 1 3 = nI p)
    (h : ∀ j, j < 8 → wdA t n q (6 + j) → (∀ i, i < j → ¬ wdA t n q (6 + i)) → ∀ s', mv s s' (q + (ac_sb (6 + j)).length) q → Q (-1 - nI j) s') (h0 : (∀ j, j < 8 → ¬ wdA t n q (6 + j)) → ∀ s', mv s s' q q → Q 0 s') : w_X4_readFact Q s := by
  obtain ⟨qn, _, qq⟩ := skq hp hq
  unfold w_X4_readFact
  have a0 : ∀ i, i < 0 → ¬ wdA t n q (6 + i) := by
    intro i hi
    exact absurd hi (Nat.not_lt_zero i)
  refine c_wordQ (i := 6) T hp hq e3 (by decide +kernel) (fun w s' m => m_if1B ?_) (fun w0 s1 m1' => m_if0B ?_)
  · have := h 0 (by omega) w a0 s' m
    rw [show (-1 - nI 0 : Int32) = -1 from by decide] at this
    exact this
  have m1 : mv s s1 q q := m1'
  have a1 : ∀ i, i < 1 → ¬ wdA t n q (6 + i) := by
    intro i hi
    by_cases c : i = 0
    · rw [c]; exact w0
    · exact a0 i (by omega)
  refine c_wordQ (i := 7) (CT_mv T m1) qn qq m1.2.2.1 (by decide +kernel) (fun w s' m => m_if1B ?_) (fun w1 s2 m2' => m_if0B ?_)
  · have := h 1 (by omega) w a1 s' (m1.trans m)
    rw [show (-1 - nI 1 : Int32) = -2 from by decide] at this
    exact this
  have m2 : mv s s2 q q := m1.trans m2'
  have a2 : ∀ i, i < 2 → ¬ wdA t n q (6 + i) := by
    intro i hi
    by_cases c : i = 1
    · rw [c]; exact w1
    · exact a1 i (by omega)
  refine c_wordQ (i := 8) (CT_mv T m2) qn qq m2.2.2.1 (by decide +kernel) (fun w s' m => m_if1B ?_) (fun w2 s3 m3' => m_if0B ?_)
  · have := h 2 (by omega) w a2 s' (m2.trans m)
    rw [show (-1 - nI 2 : Int32) = -3 from by decide] at this
    exact this
  have m3 : mv s s3 q q := m2.trans m3'
  have a3 : ∀ i, i < 3 → ¬ wdA t n q (6 + i) := by
    intro i hi
    by_cases c : i = 2
    · rw [c]; exact w2
    · exact a2 i (by omega)
  refine c_wordQ (i := 9) (CT_mv T m3) qn qq m3.2.2.1 (by decide +kernel) (fun w s' m => m_if1B ?_) (fun w3 s4 m4' => m_if0B ?_)
  · have := h 3 (by omega) w a3 s' (m3.trans m)
    rw [show (-1 - nI 3 : Int32) = -4 from by decide] at this
    exact this
  have m4 : mv s s4 q q := m3.trans m4'
  have a4 : ∀ i, i < 4 → ¬ wdA t n q (6 + i) := by
    intro i hi
    by_cases c : i = 3
    · rw [c]; exact w3
    · exact a3 i (by omega)
  refine c_wordQ (i := 10) (CT_mv T m4) qn qq m4.2.2.1 (by decide +kernel) (fun w s' m => m_if1B ?_) (fun w4 s5 m5' => m_if0B ?_)
  · have := h 4 (by omega) w a4 s' (m4.trans m)
    rw [show (-1 - nI 4 : Int32) = -5 from by decide] at this
    exact this
  have m5 : mv s s5 q q := m4.trans m5'
  have a5 : ∀ i, i < 5 → ¬ wdA t n q (6 + i) := by
    intro i hi
    by_cases c : i = 4
    · rw [c]; exact w4
    · exact a4 i (by omega)
  refine c_wordQ (i := 11) (CT_mv T m5) qn qq m5.2.2.1 (by decide +kernel) (fun w s' m => m_if1B ?_) (fun w5 s6 m6' => m_if0B ?_)
  · have := h 5 (by omega) w a5 s' (m5.trans m)
    rw [show (-1 - nI 5 : Int32) = -6 from by decide] at this
    exact this
  have m6 : mv s s6 q q := m5.trans m6'
  have a6 : ∀ i, i < 6 → ¬ wdA t n q (6 + i) := by
    intro i hi
    by_cases c : i = 5
    · rw [c]; exact w5
    · exact a5 i (by omega)
  refine c_wordQ (i := 12) (CT_mv T m6) qn qq m6.2.2.1 (by decide +kernel) (fun w s' m => m_if1B ?_) (fun w6 s7 m7' => m_if0B ?_)
  · have := h 6 (by omega) w a6 s' (m6.trans m)
    rw [show (-1 - nI 6 : Int32) = -7 from by decide] at this
    exact this
  have m7 : mv s s7 q q := m6.trans m7'
  have a7 : ∀ i, i < 7 → ¬ wdA t n q (6 + i) := by
    intro i hi
    by_cases c : i = 6
    · rw [c]; exact w6
    · exact a6 i (by omega)
  refine c_wordQ (i := 13) (CT_mv T m7) qn qq m7.2.2.1 (by decide +kernel) (fun w s' m => m_if1B ?_) (fun w7 s8 m8' => m_if0B ?_)
  · have := h 7 (by omega) w a7 s' (m7.trans m)
    rw [show (-1 - nI 7 : Int32) = -8 from by decide] at this
    exact this
  have m8 : mv s s8 q q := m7.trans m8'
  refine h0 (fun j hj => ?_) s8 m8
  by_cases c : j = 7
  · rw [c]; exact w7
  · exact a7 j (by omega)
theorem m_knownL {t : Nat → Nat} {n p q : Nat} {Q : Int32 → ac_m → Prop} {s : ac_m} (T : MT s t n) (hp : p ≤ n) (hq : skb t n p = q) (e4 : s 69 4 = nI p) (e5 : s 69 5 = 0)
    (h : ∀ j, j < 8 → wdA t n q (6 + j) → (∀ i, i < j → ¬ wdA t n q (6 + i)) → ∀ s', mvM s s' (q + (ac_sb (6 + j)).length) → Q (nI j) s') (h0 : (∀ j, j < 8 → ¬ wdA t n q (6 + j)) → ∀ s', mvM s s' q → Q (-1) s') : w_X12_knownHere Q s := by
  obtain ⟨qn, _, qq⟩ := skq hp hq
  unfold w_X12_knownHere
  have a0 : ∀ i, i < 0 → ¬ wdA t n q (6 + i) := by
    intro i hi
    exact absurd hi (Nat.not_lt_zero i)
  refine m_takesQ (i := 6) T hp hq e4 e5 wd6 (fun Q s h => six6 (by decide) (by decide) (by decide) (by decide +kernel) h) (fun w s' m => m_if1B (h 0 (by omega) w a0 s' m)) (fun w0 s1 m1' => m_if0B ?_)
  have m1 : mvM s s1 q := m1'
  have a1 : ∀ i, i < 1 → ¬ wdA t n q (6 + i) := by
    intro i hi
    by_cases c : i = 0
    · rw [c]; exact w0
    · exact a0 i (by omega)
  refine m_takesQ (i := 7) (MT_mv T m1) qn qq m1.2.2 ((m1.2.1 5 (by omega)).trans e5) wd7 (fun Q s h => six4 (by decide) (by decide +kernel) h) (fun w s' m => m_if1B (h 1 (by omega) w a1 s' (m1.trans m))) (fun w1 s2 m2' => m_if0B ?_)
  have m2 : mvM s s2 q := m1.trans m2'
  have a2 : ∀ i, i < 2 → ¬ wdA t n q (6 + i) := by
    intro i hi
    by_cases c : i = 1
    · rw [c]; exact w1
    · exact a1 i (by omega)
  refine m_takesQ (i := 8) (MT_mv T m2) qn qq m2.2.2 ((m2.2.1 5 (by omega)).trans e5) wd8 (fun Q s h => six3 (by decide +kernel) h) (fun w s' m => m_if1B (h 2 (by omega) w a2 s' (m2.trans m))) (fun w2 s3 m3' => m_if0B ?_)
  have m3 : mvM s s3 q := m2.trans m3'
  have a3 : ∀ i, i < 3 → ¬ wdA t n q (6 + i) := by
    intro i hi
    by_cases c : i = 2
    · rw [c]; exact w2
    · exact a2 i (by omega)
  refine m_takesQ (i := 9) (MT_mv T m3) qn qq m3.2.2 ((m3.2.1 5 (by omega)).trans e5) wd9 (fun Q s h => six5 (by decide) (by decide) (by decide +kernel) h) (fun w s' m => m_if1B (h 3 (by omega) w a3 s' (m3.trans m))) (fun w3 s4 m4' => m_if0B ?_)
  have m4 : mvM s s4 q := m3.trans m4'
  have a4 : ∀ i, i < 4 → ¬ wdA t n q (6 + i) := by
    intro i hi
    by_cases c : i = 3
    · rw [c]; exact w3
    · exact a3 i (by omega)
  refine m_takesQ (i := 10) (MT_mv T m4) qn qq m4.2.2 ((m4.2.1 5 (by omega)).trans e5) wd10 (fun Q s h => six6 (by decide) (by decide) (by decide) (by decide +kernel) h) (fun w s' m => m_if1B (h 4 (by omega) w a4 s' (m4.trans m))) (fun w4 s5 m5' => m_if0B ?_)
  have m5 : mvM s s5 q := m4.trans m5'
  have a5 : ∀ i, i < 5 → ¬ wdA t n q (6 + i) := by
    intro i hi
    by_cases c : i = 4
    · rw [c]; exact w4
    · exact a4 i (by omega)
  refine m_takesQ (i := 11) (MT_mv T m5) qn qq m5.2.2 ((m5.2.1 5 (by omega)).trans e5) wd11 (fun Q s h => six4 (by decide) (by decide +kernel) h) (fun w s' m => m_if1B (h 5 (by omega) w a5 s' (m5.trans m))) (fun w5 s6 m6' => m_if0B ?_)
  have m6 : mvM s s6 q := m5.trans m6'
  have a6 : ∀ i, i < 6 → ¬ wdA t n q (6 + i) := by
    intro i hi
    by_cases c : i = 5
    · rw [c]; exact w5
    · exact a5 i (by omega)
  refine m_takesQ (i := 12) (MT_mv T m6) qn qq m6.2.2 ((m6.2.1 5 (by omega)).trans e5) wd12 (fun Q s h => six3 (by decide +kernel) h) (fun w s' m => m_if1B (h 6 (by omega) w a6 s' (m6.trans m))) (fun w6 s7 m7' => m_if0B ?_)
  have m7 : mvM s s7 q := m6.trans m7'
  have a7 : ∀ i, i < 7 → ¬ wdA t n q (6 + i) := by
    intro i hi
    by_cases c : i = 6
    · rw [c]; exact w6
    · exact a6 i (by omega)
  refine m_takesQ (i := 13) (MT_mv T m7) qn qq m7.2.2 ((m7.2.1 5 (by omega)).trans e5) wd13 (fun Q s h => six5 (by decide) (by decide) (by decide +kernel) h) (fun w s' m => m_if1B (h 7 (by omega) w a7 s' (m7.trans m))) (fun w7 s8 m8' => m_if0B ?_)
  have m8 : mvM s s8 q := m7.trans m8'
  refine h0 (fun j hj => ?_) s8 m8
  by_cases c : j = 7
  · rw [c]; exact w7
  · exact a7 j (by omega)
theorem leastP {P : Nat → Prop} : ∀ k, (∃ j, j < k ∧ P j) → ∃ j, j < k ∧ P j ∧ ∀ i, i < j → ¬ P i
  | 0, h => by obtain ⟨j, hj, _⟩ := h; omega
  | k + 1, h => by
    by_cases c : ∃ j, j < k ∧ P j
    · obtain ⟨j, hj, h1, h2⟩ := leastP k c
      exact ⟨j, by omega, h1, h2⟩
    · obtain ⟨j, hj, hP⟩ := h
      refine ⟨j, hj, hP, fun i hi y => c ⟨i, by omega, y⟩⟩
theorem least_eq {P : Nat → Prop} {i j : Nat} (a : P i) (a' : ∀ k, k < i → ¬ P k) (b : P j) (b' : ∀ k, k < j → ¬ P k) : i = j := by
  rcases Nat.lt_trichotomy i j with h | h | h
  · exact absurd a (b' i h)
  · exact h
  · exact absurd b (a' j h)
