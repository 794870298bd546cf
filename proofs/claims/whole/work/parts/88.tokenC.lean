/-! THE CLASS'S READER -/
def CT (s : ac_m) (t : Nat → Nat) (n : Nat) : Prop := s 1 2 = nI n ∧ okT t n ∧ ∀ j, j < n → s 2 j = by8 (nI (t j))
/-- the reader went on -/
def mv (s s' : ac_m) (p k : Nat) : Prop := (∀ y, y ≠ 1 → s' y = s y) ∧ (∀ j, j ≠ 3 → j ≠ 4 → s' 1 j = s 1 j) ∧ s' 1 3 = nI p ∧ s' 1 4 = nI k
/-- the reader failed -/
def fl (s s' : ac_m) (kd pl : Nat) : Prop := (∀ y, y ≠ 1 → s' y = s y) ∧ (∀ j, j ≠ 3 → j ≠ 4 → j ≠ 5 → j ≠ 6 → s' 1 j = s 1 j) ∧ s' 1 5 = nI kd ∧ s' 1 6 = nI pl
theorem CT_mv {s s' : ac_m} {t : Nat → Nat} {n p k : Nat} (h : CT s t n) (m : mv s s' p k) : CT s' t n := ⟨by rw [m.2.1 2 (by omega) (by omega)]; exact h.1, h.2.1, fun j hj => by rw [m.1 2 (by omega)]; exact h.2.2 j hj⟩
theorem mv.trans {s s1 s2 : ac_m} {p k p' k' : Nat} (h : mv s s1 p k) (h2 : mv s1 s2 p' k') : mv s s2 p' k' := ⟨fun y hy => (h2.1 y hy).trans (h.1 y hy), fun j j1 j2 => (h2.2.1 j j1 j2).trans (h.2.1 j j1 j2), h2.2.2.1, h2.2.2.2⟩
theorem fl_mv {s s1 s2 : ac_m} {p k kd pl : Nat} (h : mv s s1 p k) (h2 : fl s1 s2 kd pl) : fl s s2 kd pl := ⟨fun y hy => (h2.1 y hy).trans (h.1 y hy), fun j j1 j2 j3 j4 => (h2.2.1 j j1 j2 j3 j4).trans (h.2.1 j j1 j2), h2.2.2.1, h2.2.2.2⟩
theorem c_byte {t : Nat → Nat} {n j : Nat} {Q : Int32 → ac_m → Prop} {s : ac_m} (T : CT s t n) (hj : j < 2147483648) (h : Q (kC (ch t n j)) s) : w_X10_byteAt (nI j) Q s := by
  obtain ⟨e, ⟨h6, h25⟩, hb⟩ := T
  unfold w_X10_byteAt
  rw [e]
  refine ⟨fun z => absurd z (nI_pos (by omega)), fun _ => ⟨fun z => ?_, fun z => ?_⟩⟩
  · have := (nI_leI (by omega) (by omega)).1 z
    rw [ch_end this] at h
    exact h
  · have hj2 : j < n := by
      rcases Nat.lt_or_ge j n with q | q
      · exact q
      · exact absurd (nI_le q (by omega)) z
    have e2 : ch t n j = t j := by unfold ch; rw [if_pos hj2]
    rw [e2] at h
    unfold kC at h
    rw [if_neg (by have := h25 j hj2; omega)] at h
    refine ⟨fun y => absurd y (nI_ge (b := 600) (by omega) (by omega)), fun _ => ⟨vp_in_nI (by omega) (by omega), ?_⟩⟩
    rw [cl_nI (by omega), hb j hj2]
    exact h
theorem c_start {t : Nat → Nat} {n p : Nat} {Q : ac_m → Prop} {s : ac_m} (T : CT s t n) (hp : p ≤ n) (e3 : s 1 3 = nI p) (h : ∀ s', mv s s' (skb t n p) (skb t n p) → Q s') : w_X10_startToken Q s := by
  unfold w_X10_startToken l_X10_startToken_5
  intro P hP
  rw [e3]
  have key : ∀ f p s, n - p = f → p ≤ n → CT s t n → s 1 3 = nI p → (∀ s', mv s s' (skb t n p) (skb t n p) → Q s') → P (nI p) s := by
    intro f
    induction f with
    | zero =>
      intro p s hf hp T e3 h
      have np : ch t n p ≠ 32 := by rw [ch_end (by omega)]; decide
      rw [skb_0 np] at h
      have fin : Q (ac_u s 1 4 (s 1 3)) := h _ ⟨fun y hy => u_ne hy, fun j j1 j2 => u_at j2, by rw [u_at (by omega)]; exact e3, by rw [u_eq]; exact e3⟩
      refine hP _ _ ⟨fun _ => fin, fun _ => ⟨fun _ => fin, fun z => absurd ?_ z⟩⟩
      rw [T.1]; exact nI_le (by omega) (by have := T.2.1.1; omega)
    | succ f ih =>
      intro p s hf hp T e3 h
      have h6 := T.2.1.1
      have fin : ch t n p ≠ 32 → Q (ac_u s 1 4 (s 1 3)) := fun np => by
        rw [skb_0 np] at h
        exact h _ ⟨fun y hy => u_ne hy, fun j j1 j2 => u_at j2, by rw [u_at (by omega)]; exact e3, by rw [u_eq]; exact e3⟩
      have hpn : p < n := by omega
      have ec : s 2 p = kC (ch t n p) := by
        rw [T.2.2 p hpn]; unfold kC ch; rw [if_pos hpn, if_neg (by have := T.2.1.2 p hpn; omega)]
      have iff := kC_eq (ch t n p) (ch_lt T.2.1 p) 32 (by omega)
      refine hP _ _ ⟨fun z => absurd z (nI_pos (by omega)), fun _ => ⟨fun z => absurd z (by rw [T.1]; exact nI_ge hpn (by omega)), fun _ => ⟨fun z => absurd z (nI_ge (b := 600) (by omega) (by omega)), fun _ => ⟨vp_in_nI (by omega) (by omega), ?_⟩⟩⟩⟩
      rw [cl_nI (by omega), ec]
      refine ⟨fun z => fin (fun c => z (iff.2 c)), fun z => ?_⟩
      have c := iff.1 z
      rw [nI_1]
      have T' : CT (ac_u s 1 3 (nI (p + 1))) t n := ⟨by rw [u_at (by omega)]; exact T.1, T.2.1, fun j hj => by rw [u_ne (by omega)]; exact T.2.2 j hj⟩
      refine ih (p + 1) _ (by omega) (by omega) T' u_eq (fun s' m => ?_)
      rw [skb_s c] at h
      refine h s' ⟨fun y hy => by rw [m.1 y hy, u_ne hy], fun j j1 j2 => by rw [m.2.1 j j1 j2, u_at j1], m.2.2.1, m.2.2.2⟩
  exact key (n - p) p s rfl hp T e3 h
theorem c_ended {t : Nat → Nat} {n p : Nat} {Q : Int32 → ac_m → Prop} {s : ac_m} (T : CT s t n) (hp : p ≤ n) (e3 : s 1 3 = nI p) (h1 : skb t n p = n → ∀ s', mv s s' n n → Q 1 s') (h0 : skb t n p < n → ∀ s', mv s s' (skb t n p) (skb t n p) → Q 0 s') : w_X10_ended Q s := by
  have sk := skb_le' (t := t) hp
  have h6 := T.2.1.1
  unfold w_X10_ended
  refine c_start T hp e3 (fun s' m => ?_)
  rw [m.2.2.1, m.2.1 2 (by omega) (by omega), T.1]
  refine ⟨fun z => h0 ((nI_ltI (by omega) (by omega)).1 z) s' m, fun z => ?_⟩
  have e : skb t n p = n := by
    rcases Nat.lt_or_ge (skb t n p) n with q | q
    · exact absurd (nI_lt q (by omega)) z
    · omega
  exact h1 e s' (by rw [e] at m; exact m)
theorem c_passes {t : Nat → Nat} {n p c : Nat} {Q : Int32 → ac_m → Prop} {s : ac_m} (T : CT s t n) (hp : p ≤ n) (e3 : s 1 3 = nI p) (hc : c < 128) (h1 : ch t n (skb t n p) = c → ∀ s', mv s s' (skb t n p + 1) (skb t n p) → Q 1 s') (h0 : ch t n (skb t n p) ≠ c → ∀ s', mv s s' (skb t n p) (skb t n p) → Q 0 s') : w_X10_passes (nI c) Q s := by
  have sk := skb_le' (t := t) hp
  have h6 := T.2.1.1
  unfold w_X10_passes
  refine c_start T hp e3 (fun s' m => ?_)
  have T' := CT_mv T m
  rw [m.2.2.1]
  refine c_byte T' (by omega) ?_
  have iff := kC_eq (ch t n (skb t n p)) (ch_lt T.2.1 _) c hc
  rw [m.2.2.1, nI_1]
  refine ⟨fun z => h1 (iff.1 z) _ ⟨fun y hy => by rw [u_ne hy]; exact m.1 y hy, fun j j1 j2 => by rw [u_at j1]; exact m.2.1 j j1 j2, u_eq, by rw [u_at (by omega)]; exact m.2.2.2⟩, fun z => h0 (fun c => z (iff.2 c)) s' m⟩
theorem c_fail {kd pl : Nat} {Q : Int32 → ac_m → Prop} {s : ac_m} (e4 : s 1 4 = nI pl) (h : ∀ s', fl s s' kd pl → Q 0 s') : w_X10_fail (nI kd) Q s := by
  unfold w_X10_fail
  rw [u_at (show 4 ≠ 5 by omega), e4]
  exact h _ ⟨fun y hy => by rw [u_ne hy, u_ne hy], fun j j1 j2 j3 j4 => by rw [u_at j4, u_at j3], by rw [u_at (by omega), u_eq], u_eq⟩
theorem c_expects {t : Nat → Nat} {n p c : Nat} {Q : Int32 → ac_m → Prop} {s : ac_m} (T : CT s t n) (hp : p ≤ n) (e3 : s 1 3 = nI p) (hc : c < 128) (h1 : ch t n (skb t n p) = c → ∀ s', mv s s' (skb t n p + 1) (skb t n p) → Q 1 s') (h0 : ch t n (skb t n p) ≠ c → ∀ s', fl s s' 1 (skb t n p) → Q 0 s') : w_X10_expects (nI c) Q s := by
  have sk := skb_le' (t := t) hp
  have h6 := T.2.1.1
  unfold w_X10_expects
  refine c_start T hp e3 (fun s' m => ?_)
  have T' := CT_mv T m
  rw [m.2.2.1]
  refine c_byte T' (by omega) ?_
  have iff := kC_eq (ch t n (skb t n p)) (ch_lt T.2.1 _) c hc
  rw [m.2.2.1, nI_1]
  refine ⟨fun z => h1 (iff.1 z) _ ⟨fun y hy => by rw [u_ne hy]; exact m.1 y hy, fun j j1 j2 => by rw [u_at j1]; exact m.2.1 j j1 j2, u_eq, by rw [u_at (by omega)]; exact m.2.2.2⟩, fun z => c_fail (kd := 1) m.2.2.2 (fun s2 f2 => ⟨bo_0, h0 (fun c => z (iff.2 c)) s2 (fl_mv m f2)⟩)⟩
theorem c_isD {c : Nat} {Q : Int32 → ac_m → Prop} {s : ac_m} (hc : c < 257) (h1 : dg c → Q 1 s) (h0 : ¬ dg c → Q 0 s) : w_X10_isDigit (kC c) Q s := by
  have iff := kC_dg c hc
  unfold w_X10_isDigit
  exact ⟨fun z => h0 (fun d => (iff.2 d).1 z), fun z => ⟨fun y => h0 (fun d => (iff.2 d).2 y), fun y => h1 (iff.1 ⟨z, y⟩)⟩⟩
theorem c_isL {c : Nat} {Q : Int32 → ac_m → Prop} {s : ac_m} (hc : c < 257) (h1 : sml c → Q 1 s) (h0 : ¬ sml c → Q 0 s) : w_X10_isLetter (kC c) Q s := by
  have iff := kC_sm c hc
  unfold w_X10_isLetter
  exact ⟨fun z => h0 (fun d => (iff.2 d).1 z), fun z => ⟨fun y => h0 (fun d => (iff.2 d).2 y), fun y => h1 (iff.1 ⟨z, y⟩)⟩⟩
theorem c_atNum {t : Nat → Nat} {n p : Nat} {Q : Int32 → ac_m → Prop} {s : ac_m} (T : CT s t n) (hp : p ≤ n) (e3 : s 1 3 = nI p) (h1 : dg (ch t n (skb t n p)) → ∀ s', mv s s' (skb t n p) (skb t n p) → Q 1 s') (h0 : ¬ dg (ch t n (skb t n p)) → ∀ s', mv s s' (skb t n p) (skb t n p) → Q 0 s') : w_X10_atNumber Q s := by
  have sk := skb_le' (t := t) hp
  have h6 := T.2.1.1
  unfold w_X10_atNumber
  refine c_start T hp e3 (fun s' m => ?_)
  rw [m.2.2.1]
  exact c_byte (CT_mv T m) (by omega) (c_isD (ch_lt T.2.1 _) (fun d => ⟨bo_1, h1 d s' m⟩) (fun d => ⟨bo_0, h0 d s' m⟩))
theorem c_num {t : Nat → Nat} {n p : Nat} {lo hi : Int32} {Q : Int32 → ac_m → Prop} {s : ac_m} (T : CT s t n) (hp : p ≤ n) (e3 : s 1 3 = nI p)
    (h1 : dg (ch t n (skb t n p)) → ¬ nI (nmV t n (skb t n p)) < lo → nI (nmV t n (skb t n p)) ≤ hi → ∀ s', mv s s' (nmE t n (skb t n p)) (skb t n p) → Q (nI (nmV t n (skb t n p))) s')
    (h0 : ¬ dg (ch t n (skb t n p)) → ∀ s', fl s s' 1 (skb t n p) → Q (-1) s')
    (h2 : dg (ch t n (skb t n p)) → ¬ (¬ nI (nmV t n (skb t n p)) < lo ∧ nI (nmV t n (skb t n p)) ≤ hi) → ∀ s', fl s s' 2 (skb t n p) → Q (-1) s') : w_X10_number lo hi Q s := by
  have sk := skb_le' (t := t) hp
  have h6 := T.2.1.1
  unfold w_X10_number
  refine c_atNum T hp e3 (fun d s1 m1 => m_if1A ?_) (fun d s1 m1 => m_if0A (c_fail (kd := 1) m1.2.2.2 (fun s2 f2 => h0 d s2 (fl_mv m1 f2))))
  generalize skb t n p = q at *
  rw [m1.2.2.1]
  unfold l_X10_number_23
  intro P hP
  have endQ : ∀ s2, mv s1 s2 (nmE t n q) q → ((nI (nmV t n q) < lo → (w_X10_fail (2 : Int32) (fun r90 s90 => Q (-1 : Int32) s90) s2)) ∧ (¬ nI (nmV t n q) < lo → ((nI (nmV t n q) ≤ hi → (Q (nI (nmV t n q)) s2)) ∧ (¬ nI (nmV t n q) ≤ hi → (w_X10_fail (2 : Int32) (fun r90 s90 => Q (-1 : Int32) s90) s2))))) := by
    intro s2 m2
    have m := m1.trans m2
    exact ⟨fun z => c_fail (kd := 2) m2.2.2.2 (fun s3 f3 => h2 d (fun y => y.1 z) s3 (fl_mv m f3)), fun z => ⟨fun y => h1 d z y s2 m, fun y => c_fail (kd := 2) m2.2.2.2 (fun s3 f3 => h2 d (fun x => y x.2) s3 (fl_mv m f3))⟩⟩
  have key : ∀ f r v s2, n - r = f → r ≤ n → v ≤ 100000 → mv s1 s2 r q → nE t n f r = nmE t n q → nV t n f r v = nmV t n q → P (nI v) (nI r) s2 := by
    intro f
    induction f with
    | zero =>
      intro r v s2 hf hr hv m2 e1 e2
      rw [nE] at e1
      rw [nV] at e2
      have T2 := CT_mv (CT_mv T m1) m2
      rw [e1] at m2
      rw [e2]
      refine hP _ _ _ ⟨fun _ => endQ s2 m2, fun z => absurd ?_ z⟩
      rw [T2.1]; exact nI_le (by omega) (by omega)
    | succ f ih =>
      intro r v s2 hf hr hv m2 e1 e2
      have T2 := CT_mv (CT_mv T m1) m2
      rw [nE] at e1
      rw [nV] at e2
      refine hP _ _ _ ⟨fun z => absurd z (by rw [T2.1]; exact nI_ge (show r < n by omega) (by omega)), fun _ => c_byte T2 (by omega) (c_isD (ch_lt T.2.1 _) (fun dr => m_if1B (c_byte T2 (by omega) (fun y hy => ?_))) (fun dr => m_if0B ?_))⟩
      · have dr' : 48 ≤ ch t n r ∧ ch t n r ≤ 57 := dr
        rw [if_pos dr'] at e1 e2
        rw [kC_dig _ (ch_lt T.2.1 _) dr] at hy
        have ey : ((nI v * (10 : Int32)) + nI (ch t n r)) - (48 : Int32) = nI (10 * v + (ch t n r - 48)) := by
          have a1 : nI v * (10 : Int32) = nI (10 * v) := by rw [show (10 : Int32) = nI 10 from rfl, nI_mul, Nat.mul_comm]
          have a2 : nI (ch t n r) = nI (ch t n r - 48) + (48 : Int32) := by rw [show (48 : Int32) = nI 48 from rfl, nI_add, show ch t n r - 48 + 48 = ch t n r by omega]
          rw [a1, a2, ← nI_add]; grind
        have ey2 : y = nI (min (10 * v + (ch t n r - 48)) 100000) := by
          rw [hy, ey]
          by_cases c : (100000 : Int32) < nI (10 * v + (ch t n r - 48))
          · rw [if_pos c]
            have := (nI_ltI (a := 100000) (by omega) (by omega)).1 c
            rw [Nat.min_eq_right (by omega)]; rfl
          · rw [if_neg c]
            have : ¬ 100000 < 10 * v + (ch t n r - 48) := fun q => c (nI_lt (a := 100000) q (by omega))
            rw [Nat.min_eq_left (by omega)]
        rw [ey2, nI_1]
        refine ih (r + 1) _ _ (by omega) (by omega) (Nat.min_le_right _ _) ?_ e1 e2
        exact ⟨fun y hy => by rw [u_ne hy]; exact m2.1 y hy, fun j j1 j2 => by rw [u_at j1]; exact m2.2.1 j j1 j2, u_eq, by rw [u_at (by omega)]; exact m2.2.2.2⟩
      · have ndr : ¬ (48 ≤ ch t n r ∧ ch t n r ≤ 57) := dr
        rw [if_neg ndr] at e1 e2
        rw [e1] at m2
        rw [e2]
        exact endQ s2 m2
  exact key (n - q) q 0 s1 rfl (by omega) (by omega) ⟨fun _ _ => rfl, fun _ _ _ => rfl, m1.2.2.1, m1.2.2.2⟩ rfl rfl
/-- the word stands at p, and ends there -/
def wdA (t : Nat → Nat) (n p i : Nat) : Prop := (∀ k, k < (ac_sb i).length → kC (ch t n (p + k)) = (ac_sb i).getD k 0) ∧ ¬ sml (ch t n (p + (ac_sb i).length))
theorem c_word {t : Nat → Nat} {n p i : Nat} {Q : Int32 → ac_m → Prop} {s : ac_m} (T : CT s t n) (hp : p ≤ n) (e3 : s 1 3 = nI p) (hl : (ac_sb i).length ≤ 100)
    (h1 : wdA t n (skb t n p) i → ∀ s', mv s s' (skb t n p + (ac_sb i).length) (skb t n p) → Q 1 s') (h0 : ¬ wdA t n (skb t n p) i → ∀ s', mv s s' (skb t n p) (skb t n p) → Q 0 s') : w_X10_passesWord i Q s := by
  have sk := skb_le' (t := t) hp
  have h6 := T.2.1.1
  unfold w_X10_passesWord
  refine c_start T hp e3 (fun s1 m1 => ?_)
  have T1 := CT_mv T m1
  generalize skb t n p = q at *
  obtain ⟨b, hb, b1, b2⟩ := cut0 (p := fun k => ¬ kC (ch t n (q + k)) = (ac_sb i).getD k 0) (ac_sb i).length
  unfold l_X10_passesWord_11
  intro P hP
  refine loopUp (P := fun k => P (nI k) s1) b ?_ ?_
  · rcases Nat.lt_or_ge b (ac_sb i).length with h | h
    · have no := b2 h
      refine hP _ _ ⟨fun z => absurd z (nI_ge h (by omega)), fun _ => ?_⟩
      rw [m1.2.2.1, nI_add]
      refine c_byte T1 (by omega) ⟨vp_in_nI h (by omega), ?_⟩
      rw [cl_nI (by omega)]
      exact ⟨fun z => absurd z no, fun _ => h0 (fun w => no (w.1 b h)) s1 m1⟩
    · have e : b = (ac_sb i).length := by omega
      have all : ∀ k, k < (ac_sb i).length → kC (ch t n (q + k)) = (ac_sb i).getD k 0 := fun k hk => Decidable.not_not.mp (b1 k (by omega))
      refine hP _ _ ⟨fun _ => ?_, fun z => absurd (by rw [e]; exact Int32.le_refl _) z⟩
      rw [m1.2.2.1, nI_add]
      refine c_byte T1 (by omega) (c_isL (ch_lt T.2.1 _) (fun d => m_if1B (h0 (fun w => w.2 d) s1 m1)) (fun d => m_if0B (h1 ⟨all, d⟩ _ ?_)))
      exact ⟨fun y hy => by rw [u_ne hy]; exact m1.1 y hy, fun j j1 j2 => by rw [u_at j1]; exact m1.2.1 j j1 j2, by rw [u_eq, m1.2.2.1, nI_add], by rw [u_at (by omega)]; exact m1.2.2.2⟩
  · intro k hk ih
    refine hP _ _ ⟨fun z => absurd z (nI_ge (show k < (ac_sb i).length by omega) (by omega)), fun _ => ?_⟩
    rw [m1.2.2.1, nI_add]
    refine c_byte T1 (by omega) ⟨vp_in_nI (by omega) (by omega), ?_⟩
    rw [cl_nI (by omega), nI_1]
    exact ⟨fun _ => ih, fun z => absurd (Decidable.not_not.mp (b1 k hk)) z⟩
