/-! THE REFERENCE'S READER -/
def MT (s : ac_m) (t : Nat → Nat) (n : Nat) : Prop := s 69 2 = nI n ∧ okT t n ∧ ∀ j, j < n → s 70 j = nI (t j)
def mvM (s s' : ac_m) (p : Nat) : Prop := (∀ y, y ≠ 69 → s' y = s y) ∧ (∀ j, j ≠ 4 → s' 69 j = s 69 j) ∧ s' 69 4 = nI p
def flM (s s' : ac_m) (n kd pl : Nat) : Prop := (∀ y, y ≠ 69 → s' y = s y) ∧ (∀ j, j ≠ 4 → j ≠ 5 → j ≠ 6 → s' 69 j = s 69 j) ∧ s' 69 5 = nI kd ∧ s' 69 6 = nI pl ∧ ∃ r, r ≤ n ∧ s' 69 4 = nI r
theorem MT_mv {s s' : ac_m} {t : Nat → Nat} {n p : Nat} (h : MT s t n) (m : mvM s s' p) : MT s' t n := ⟨by rw [m.2.1 2 (by omega)]; exact h.1, h.2.1, fun j hj => by rw [m.1 70 (by omega)]; exact h.2.2 j hj⟩
theorem mvM.trans {s s1 s2 : ac_m} {p p' : Nat} (h : mvM s s1 p) (h2 : mvM s1 s2 p') : mvM s s2 p' := ⟨fun y hy => (h2.1 y hy).trans (h.1 y hy), fun j j1 => (h2.2.1 j j1).trans (h.2.1 j j1), h2.2.2⟩
theorem mvM.rfl' {s : ac_m} {p : Nat} (h : s 69 4 = nI p) : mvM s s p := ⟨fun _ _ => rfl, fun _ _ => rfl, h⟩
theorem flM_mv {s s1 s2 : ac_m} {p n kd pl : Nat} (h : mvM s s1 p) (h2 : flM s1 s2 n kd pl) : flM s s2 n kd pl := ⟨fun y hy => (h2.1 y hy).trans (h.1 y hy), fun j j1 j2 j3 => (h2.2.1 j j1 j2 j3).trans (h.2.1 j j1), h2.2.2.1, h2.2.2.2⟩
theorem mvM_u {s s' : ac_m} {p q : Nat} (h : mvM s s' p) : mvM s (ac_u s' 69 4 (nI q)) q := ⟨fun y hy => by rw [u_ne hy]; exact h.1 y hy, fun j hj => by rw [u_at hj]; exact h.2.1 j hj, u_eq⟩
theorem m_byte {t : Nat → Nat} {n j : Nat} {Q : Int32 → ac_m → Prop} {s : ac_m} (T : MT s t n) (hj : j < 2147483648) (h : Q (kM (ch t n j)) s) : w_X12_byteAt (nI j) Q s := by
  obtain ⟨e, ⟨h6, h25⟩, hb⟩ := T
  unfold w_X12_byteAt
  rw [e]
  refine ⟨fun z => ?_, fun z => ?_⟩
  · have hj2 := (nI_ltI (by omega) (by omega)).1 z
    have e2 : ch t n j = t j := by unfold ch; rw [if_pos hj2]
    rw [e2] at h
    unfold kM at h
    rw [if_neg (by have := h25 j hj2; omega)] at h
    rw [cl_nI (by omega), hb j hj2]
    exact ⟨vp_in_nI (by omega) (by omega), h⟩
  · have : n ≤ j := by
      rcases Nat.lt_or_ge j n with q | q
      · exact absurd (nI_lt q (by omega)) z
      · exact q
    rw [ch_end this] at h
    exact h
theorem m_blanks {t : Nat → Nat} {n p : Nat} {Q : ac_m → Prop} {s : ac_m} (T : MT s t n) (hp : p ≤ n) (e4 : s 69 4 = nI p) (h : ∀ s', mvM s s' (skb t n p) → Q s') : w_X12_blanks Q s := by
  unfold w_X12_blanks l_X12_blanks_0
  intro P hP
  have key : ∀ f p s, n - p = f → p ≤ n → MT s t n → s 69 4 = nI p → (∀ s', mvM s s' (skb t n p) → Q s') → P s := by
    intro f
    induction f with
    | zero =>
      intro p s hf hp T e4 h
      have h6 := T.2.1.1
      refine hP _ ?_
      rw [e4]
      refine m_byte T (by omega) ?_
      rw [ch_end (show n ≤ p by omega)]
      have np : ch t n p ≠ 32 := by rw [ch_end (by omega)]; decide
      rw [skb_0 np] at h
      exact ⟨fun _ => h s (mvM.rfl' e4), fun z => absurd z (by decide)⟩
    | succ f ih =>
      intro p s hf hp T e4 h
      have h6 := T.2.1.1
      refine hP _ ?_
      rw [e4]
      refine m_byte T (by omega) ?_
      have iff := kM_eq (ch t n p) (ch_lt T.2.1 p) 32 (by omega)
      refine ⟨fun z => ?_, fun z => ?_⟩
      · rw [skb_0 (fun c => z (iff.2 c))] at h
        exact h s (mvM.rfl' e4)
      · rw [skb_s (iff.1 z)] at h
        rw [e4, nI_1]
        have m1 := mvM_u (q := p + 1) (mvM.rfl' e4)
        exact ih (p + 1) _ (by omega) (by omega) (MT_mv T m1) u_eq (fun s' m => h s' (m1.trans m))
  exact key (n - p) p s rfl hp T e4 h
theorem m_wrong0 {kd pl r n : Nat} {Q : ac_m → Prop} {s : ac_m} (e5 : s 69 5 = 0) (e4 : s 69 4 = nI r) (hr : r ≤ n) (h : ∀ s', flM s s' n kd pl → s' 69 4 = s 69 4 → Q s') : w_X12_wrong (nI kd) (nI pl) Q s := by
  unfold w_X12_wrong
  exact ⟨fun z => absurd e5 z, fun _ => h _ ⟨fun y hy => by rw [u_ne hy, u_ne hy], fun j _ j2 j3 => by rw [u_at j3, u_at j2], by rw [u_at (by omega), u_eq], u_eq, r, hr, by rw [u_at (by omega), u_at (by omega)]; exact e4⟩ (by rw [u_at (by omega), u_at (by omega)])⟩
theorem m_wrong1 {a b : Int32} {Q : ac_m → Prop} {s : ac_m} (e5 : ¬ s 69 5 = 0) (h : Q s) : w_X12_wrong a b Q s := by
  unfold w_X12_wrong
  exact ⟨fun _ => h, fun z => absurd z e5⟩
theorem m_isD {c : Nat} {Q : Int32 → ac_m → Prop} {s : ac_m} (hc : c < 257) (h1 : dg c → Q 1 s) (h0 : ¬ dg c → Q 0 s) : w_X12_isDigit (kM c) Q s := by
  have iff := kM_dg c hc
  unfold w_X12_isDigit
  exact ⟨fun z => h0 (fun d => (iff.2 d).1 z), fun z => ⟨fun y => h0 (fun d => (iff.2 d).2 y), fun y => h1 (iff.1 ⟨z, y⟩)⟩⟩
theorem m_isS {c : Nat} {Q : Int32 → ac_m → Prop} {s : ac_m} (hc : c < 257) (h1 : sml c → Q 1 s) (h0 : ¬ sml c → Q 0 s) : w_X12_isSmall (kM c) Q s := by
  have iff := kM_sm c hc
  unfold w_X12_isSmall
  exact ⟨fun z => h0 (fun d => (iff.2 d).1 z), fun z => ⟨fun y => h0 (fun d => (iff.2 d).2 y), fun y => h1 (iff.1 ⟨z, y⟩)⟩⟩
theorem kM_id {c : Nat} (h : c < 256) : kM c = nI c := by unfold kM; rw [if_neg (by omega)]
theorem nI_k {k : Nat} (hk : k = 1 ∨ k = 2 ∨ k = 3) : ¬ nI k = 0 := nI_ne0 (by omega) (by omega)
theorem m_num {t : Nat → Nat} {n p : Nat} {lo hi : Int32} {Q : Int32 → ac_m → Prop} {s : ac_m} (T : MT s t n) (hp : p ≤ n) (e4 : s 69 4 = nI p) (e5 : s 69 5 = 0)
    (h1 : dg (ch t n (skb t n p)) → ¬ nI (nmV t n (skb t n p)) < lo → nI (nmV t n (skb t n p)) ≤ hi → ∀ s', mvM s s' (nmE t n (skb t n p)) → Q (nI (nmV t n (skb t n p))) s')
    (h0 : ¬ dg (ch t n (skb t n p)) → ∀ s', flM s s' n 1 (skb t n p) → Q 0 s')
    (h2 : dg (ch t n (skb t n p)) → ¬ (¬ nI (nmV t n (skb t n p)) < lo ∧ nI (nmV t n (skb t n p)) ≤ hi) → ∀ s', flM s s' n 2 (skb t n p) → Q 0 s') : w_X12_number lo hi Q s := by
  have sk := skb_le' (t := t) hp
  have h6 := T.2.1.1
  unfold w_X12_number
  refine ⟨fun _ => m_blanks T hp e4 (fun s1 m1 => ?_), fun z => absurd e5 z⟩
  have T1 := MT_mv T m1
  have e51 : s1 69 5 = 0 := by rw [m1.2.1 5 (by omega)]; exact e5
  generalize skb t n p = q at *
  rw [m1.2.2]
  refine m_byte T1 (by omega) (m_isD (ch_lt T.2.1 _) (fun d => m_if1A ?_) (fun d => m_if0A ?_))
  · have endQ : ∀ s2, mvM s1 s2 (nmE t n q) → w_X12_in (nI (nmV t n q)) lo hi (fun r110 s110 => (¬ r110 = 0 → ((¬ (s110 69 5) = 0 → (Q (0 : Int32) s110)) ∧ ((s110 69 5) = 0 → (Q (nI (nmV t n q)) s110)))) ∧ (r110 = 0 → (w_X12_wrong (2 : Int32) (nI q) (fun s119 => (¬ (s119 69 5) = 0 → (Q (0 : Int32) s119)) ∧ ((s119 69 5) = 0 → (Q (nI (nmV t n q)) s119))) s110))) s2 := by
      intro s2 m2
      have e52 : s2 69 5 = 0 := by rw [m2.2.1 5 (by omega)]; exact e51
      have m := m1.trans m2
      have bad : ¬ (¬ nI (nmV t n q) < lo ∧ nI (nmV t n q) ≤ hi) → w_X12_wrong (2 : Int32) (nI q) (fun s119 => (¬ (s119 69 5) = 0 → (Q (0 : Int32) s119)) ∧ ((s119 69 5) = 0 → (Q (nI (nmV t n q)) s119))) s2 := fun z => m_wrong0 (kd := 2) e52 m2.2.2 (nmE_gt d).2 (fun s3 f3 _ => ⟨fun _ => h2 d z s3 (flM_mv m f3), fun y => absurd (f3.2.2.1.symm.trans y) (by decide)⟩)
      unfold w_X12_in
      exact ⟨fun z => m_if0A (bad (fun y => y.1 z)), fun z => ⟨fun y => m_if0A (bad (fun x => by have := x.2; grind)), fun y => m_if1A ⟨fun x => absurd e52 x, fun _ => h1 d z (by grind) s2 m⟩⟩⟩
    unfold l_X12_number_44
    intro P hP
    have key : ∀ f r v s2, n - r = f → r ≤ n → v ≤ 100000 → mvM s1 s2 r → nE t n f r = nmE t n q → nV t n f r v = nmV t n q → P (nI v) s2 := by
      intro f
      induction f with
      | zero =>
        intro r v s2 hf hr hv m2 e1 e2
        rw [nE] at e1
        rw [nV] at e2
        have T2 := MT_mv T1 m2
        refine hP _ _ ?_
        rw [m2.2.2]
        refine m_byte T2 (by omega) ?_
        rw [ch_end (show n ≤ r by omega)]
        rw [e1] at m2
        rw [e2]
        exact m_isD (by omega) (fun z => absurd z.2 (by decide)) (fun _ => m_if0B (endQ s2 m2))
      | succ f ih =>
        intro r v s2 hf hr hv m2 e1 e2
        have T2 := MT_mv T1 m2
        rw [nE] at e1
        rw [nV] at e2
        refine hP _ _ ?_
        rw [m2.2.2]
        refine m_byte T2 (by omega) (m_isD (ch_lt T.2.1 _) (fun dr => m_if1B ?_) (fun dr => m_if0B ?_))
        · have dr' : 48 ≤ ch t n r ∧ ch t n r ≤ 57 := dr
          rw [if_pos dr'] at e1 e2
          rw [m2.2.2]
          refine m_byte T2 (by omega) ?_
          have ey : (((10 : Int32) * nI v) + kM (ch t n r)) - (48 : Int32) = nI (10 * v + (ch t n r - 48)) := by
            have a1 : (10 : Int32) * nI v = nI (10 * v) := nI_mul 10 v
            have a2 : kM (ch t n r) = nI (ch t n r - 48) + (48 : Int32) := by rw [kM_id (by omega), show (48 : Int32) = nI 48 from rfl, nI_add, show ch t n r - 48 + 48 = ch t n r by omega]
            rw [a1, a2, ← nI_add]; grind
          have m3 := mvM_u (q := r + 1) m2
          rw [ey, m2.2.2, nI_1]
          refine ⟨fun z => ?_, fun z => ?_⟩
          · have := (nI_leI (b := 100000) (by omega) (by omega)).1 z
            rw [Nat.min_eq_left (by omega)] at e2
            exact ih (r + 1) _ _ (by omega) (by omega) (by omega) m3 e1 e2
          · have : ¬ 10 * v + (ch t n r - 48) ≤ 100000 := fun q => z (nI_le (b := 100000) q (by omega))
            rw [Nat.min_eq_right (by omega)] at e2
            exact ih (r + 1) 100000 _ (by omega) (by omega) (by omega) m3 e1 e2
        · have ndr : ¬ (48 ≤ ch t n r ∧ ch t n r ≤ 57) := dr
          rw [if_neg ndr] at e1 e2
          rw [e1] at m2
          rw [e2]
          exact endQ s2 m2
    exact key (n - q) q 0 s1 rfl (by omega) (by omega) (mvM.rfl' m1.2.2) rfl rfl
  · rw [m1.2.2]
    refine m_wrong0 (kd := 1) e51 m1.2.2 (show q ≤ n by omega) (fun s2 f2 k2 => ?_)
    have ff := flM_mv m1 f2
    have e52 : ¬ s2 69 5 = 0 := by rw [f2.2.2.1]; decide
    have T2 : MT s2 t n := ⟨by rw [f2.2.1 2 (by omega) (by omega) (by omega)]; exact T1.1, T.2.1, fun j hj => by rw [f2.1 70 (by omega)]; exact T1.2.2 j hj⟩
    unfold l_X12_number_44
    intro P hP
    refine hP _ _ ?_
    rw [k2, m1.2.2]
    refine m_byte T2 (by omega) (m_isD (ch_lt T.2.1 _) (fun z => absurd z d) (fun _ => m_if0B ?_))
    have fin : (¬ (s2 69 5) = 0 → (Q (0 : Int32) s2)) ∧ ((s2 69 5) = 0 → (Q 0 s2)) := ⟨fun _ => h0 d s2 ff, fun z => absurd z e52⟩
    unfold w_X12_in
    exact ⟨fun _ => m_if0A (m_wrong1 e52 fin), fun _ => ⟨fun _ => m_if0A (m_wrong1 e52 fin), fun _ => m_if1A fin⟩⟩
theorem m_sign {t : Nat → Nat} {n p c : Nat} {Q : ac_m → Prop} {s : ac_m} (T : MT s t n) (hp : p ≤ n) (e4 : s 69 4 = nI p) (e5 : s 69 5 = 0) (hc : c < 128) (h1 : ch t n (skb t n p) = c → ∀ s', mvM s s' (skb t n p + 1) → Q s') (h0 : ch t n (skb t n p) ≠ c → ∀ s', flM s s' n 1 (skb t n p) → Q s') : w_X12_sign (nI c) Q s := by
  have sk := skb_le' (t := t) hp
  have h6 := T.2.1.1
  unfold w_X12_sign
  refine ⟨fun _ => m_blanks T hp e4 (fun s1 m1 => ?_), fun z => absurd e5 z⟩
  have e51 : s1 69 5 = 0 := by rw [m1.2.1 5 (by omega)]; exact e5
  have iff := kM_eq (ch t n (skb t n p)) (ch_lt T.2.1 _) c hc
  rw [m1.2.2]
  refine m_byte (MT_mv T m1) (by omega) ?_
  rw [m1.2.2, nI_1]
  exact ⟨fun z => m_wrong0 (kd := 1) e51 m1.2.2 sk.2.1 (fun s2 f2 _ => h0 (fun y => z (iff.2 y)) s2 (flM_mv m1 f2)), fun z => h1 (iff.1 z) _ (mvM_u m1)⟩
theorem m_takesSign {t : Nat → Nat} {n p c : Nat} {Q : Int32 → ac_m → Prop} {s : ac_m} (T : MT s t n) (hp : p ≤ n) (e4 : s 69 4 = nI p) (e5 : s 69 5 = 0) (hc : c < 128) (h1 : ch t n (skb t n p) = c → ∀ s', mvM s s' (skb t n p + 1) → Q 1 s') (h0 : ch t n (skb t n p) ≠ c → ∀ s', mvM s s' (skb t n p) → Q 0 s') : w_X12_takesSign (nI c) Q s := by
  have sk := skb_le' (t := t) hp
  have h6 := T.2.1.1
  unfold w_X12_takesSign
  refine ⟨fun _ => m_blanks T hp e4 (fun s1 m1 => ?_), fun z => absurd e5 z⟩
  have iff := kM_eq (ch t n (skb t n p)) (ch_lt T.2.1 _) c hc
  rw [m1.2.2]
  refine m_byte (MT_mv T m1) (by omega) ?_
  rw [m1.2.2, nI_1]
  exact ⟨fun z => m_if0B (h0 (fun y => z (iff.2 y)) s1 m1), fun z => m_if1B (h1 (iff.1 z) _ (mvM_u m1))⟩
/-! words -/
def rlF (t : Nat → Nat) (n : Nat) : Nat → Nat → Nat
  | 0, _ => 0
  | f + 1, p => if 97 ≤ ch t n p ∧ ch t n p ≤ 122 then 1 + rlF t n f (p + 1) else 0
/-- how many small letters stand at p -/
def rl (t : Nat → Nat) (n p : Nat) : Nat := rlF t n (n - p) p
theorem rl_0 {t : Nat → Nat} {n p : Nat} (h : ¬ sml (ch t n p)) : rl t n p = 0 := by
  unfold rl
  cases n - p with
  | zero => rfl
  | succ f => rw [rlF, if_neg (show ¬ (97 ≤ ch t n p ∧ ch t n p ≤ 122) from h)]
theorem rl_s {t : Nat → Nat} {n p : Nat} (h : sml (ch t n p)) : rl t n p = 1 + rl t n (p + 1) := by
  unfold rl
  have hp : p < n := by
    rcases Nat.lt_or_ge p n with q | q
    · exact q
    · unfold sml at h; rw [ch_end q] at h; omega
  rw [show n - p = (n - (p + 1)) + 1 by omega, rlF, if_pos (show 97 ≤ ch t n p ∧ ch t n p ≤ 122 from h)]
theorem rl_is {t : Nat → Nat} {n : Nat} : ∀ (L p : Nat), rl t n p = L ↔ (∀ k, k < L → sml (ch t n (p + k))) ∧ ¬ sml (ch t n (p + L))
  | 0, p => by
    constructor
    · intro h
      refine ⟨fun k hk => absurd hk (Nat.not_lt_zero k), fun z => ?_⟩
      rw [Nat.add_zero] at z
      rw [rl_s z] at h; omega
    · intro h; exact rl_0 h.2
  | L + 1, p => by
    have ih := rl_is (t := t) (n := n) L (p + 1)
    by_cases c : sml (ch t n p)
    · rw [rl_s c]
      constructor
      · intro h
        have := ih.1 (by omega)
        refine ⟨fun k hk => ?_, by rw [show p + (L + 1) = p + 1 + L by omega]; exact this.2⟩
        cases k with
        | zero => exact c
        | succ k => rw [show p + (k + 1) = p + 1 + k by omega]; exact this.1 k (by omega)
      · intro h
        have := ih.2 ⟨fun k hk => by rw [show p + 1 + k = p + (k + 1) by omega]; exact h.1 (k + 1) (by omega), by rw [show p + 1 + L = p + (L + 1) by omega]; exact h.2⟩
        omega
    · rw [rl_0 c]
      constructor
      · intro h; omega
      · intro h; exact absurd (h.1 0 (by omega)) c
theorem rl_le {t : Nat → Nat} {n p : Nat} (hp : p ≤ n) : p + rl t n p ≤ n := by
  rcases Nat.lt_or_ge n (p + rl t n p) with h | h
  · have := ((rl_is (rl t n p) p).1 rfl).1 (n - p) (by omega)
    rw [show p + (n - p) = n by omega, ch_end (Nat.le_refl n)] at this
    exact absurd this.2 (by decide)
  · exact h
def cdF (g : Nat → Nat) : Nat → Nat
  | 0 => 0
  | k + 1 => 27 * cdF g k + g k
theorem cdF_inj {g h : Nat → Nat} : ∀ (a b : Nat), (∀ i, i < a → 1 ≤ g i ∧ g i ≤ 26) → (∀ i, i < b → 1 ≤ h i ∧ h i ≤ 26) → cdF g a = cdF h b → a = b ∧ ∀ i, i < a → g i = h i
  | 0, 0, _, _, _ => ⟨rfl, fun i hi => absurd hi (Nat.not_lt_zero i)⟩
  | 0, b + 1, _, hh, e => by rw [cdF, cdF] at e; have := hh b (by omega); omega
  | a + 1, 0, hg, _, e => by rw [cdF, cdF] at e; have := hg a (by omega); omega
  | a + 1, b + 1, hg, hh, e => by
    rw [cdF, cdF] at e
    have g1 := hg a (by omega)
    have h1 := hh b (by omega)
    have e1 : cdF g a = cdF h b := by omega
    have e2 : g a = h b := by omega
    obtain ⟨q1, q2⟩ := cdF_inj a b (fun i hi => hg i (by omega)) (fun i hi => hh i (by omega)) e1
    subst q1
    refine ⟨rfl, fun i hi => ?_⟩
    by_cases c : i = a
    · rw [c]; exact e2
    · exact q2 i (by omega)
theorem cdF_bd {g : Nat → Nat} : ∀ (k : Nat), (∀ i, i < k → g i ≤ 26) → cdF g k < 27 ^ k
  | 0, _ => by rw [cdF]; decide
  | k + 1, h => by
    have := cdF_bd k (fun i hi => h i (by omega))
    have := h k (by omega)
    rw [cdF, Nat.pow_succ]
    omega
theorem p27 : ∀ k, k < 7 → 27 ^ k ≤ 387420489 := by decide +kernel
def wC (t : Nat → Nat) (n q : Nat) : Int32 := if rl t n q ≤ 6 then nI (cdF (fun i => ch t n (q + i) - 96) (rl t n q)) else -1
theorem m_wordHere {t : Nat → Nat} {n p : Nat} {Q : Int32 → ac_m → Prop} {s : ac_m} (T : MT s t n) (hp : p ≤ n) (e4 : s 69 4 = nI p) (h : ∀ s', mvM s s' (skb t n p) → Q (wC t n (skb t n p)) s') : w_X12_wordHere Q s := by
  have sk := skb_le' (t := t) hp
  have h6 := T.2.1.1
  unfold w_X12_wordHere
  refine m_blanks T hp e4 (fun s1 m1 => ?_)
  have T1 := MT_mv T m1
  have h' := h s1 m1
  generalize skb t n p = q at *
  have rle := rl_le (t := t) (n := n) (p := q) (by omega)
  have ris := (rl_is (t := t) (n := n) (rl t n q) q).1 rfl
  unfold l_X12_wordHere_8
  intro P hP
  refine loopUp (P := fun k => P (nI (cdF (fun i => ch t n (q + i) - 96) (min k 6))) (nI k) s1) (rl t n q) ?_ ?_
  · refine hP _ _ _ ?_
    rw [m1.2.2, nI_add]
    refine m_byte T1 (by omega) (m_isS (ch_lt T.2.1 _) (fun z => absurd z ris.2) (fun _ => m_if0B ⟨fun z => ?_, fun z => ?_⟩))
    · have := (nI_leI (b := 6) (by omega) (by omega)).1 z
      unfold wC at h'
      rw [if_pos this] at h'
      rw [Nat.min_eq_left this]; exact h'
    · have : ¬ rl t n q ≤ 6 := fun y => z (nI_le (b := 6) y (by omega))
      unfold wC at h'
      rw [if_neg this] at h'
      exact h'
  · intro k hk ih
    have sk := ris.1 k hk
    have sk' : 97 ≤ ch t n (q + k) ∧ ch t n (q + k) ≤ 122 := sk
    refine hP _ _ _ ?_
    rw [m1.2.2, nI_add]
    refine m_byte T1 (by omega) (m_isS (ch_lt T.2.1 _) (fun _ => m_if1B ⟨fun z => ?_, fun z => ?_⟩) (fun z => absurd sk z))
    · have := (nI_leI (a := 6) (by omega) (by omega)).1 z
      rw [Nat.min_eq_right (by omega)] at ih
      rw [Nat.min_eq_right this, nI_1]; exact ih
    · have k6 : k < 6 := by
        rcases Nat.lt_or_ge k 6 with y | y
        · exact y
        · exact absurd (nI_le (a := 6) y (by omega)) z
      rw [m1.2.2, nI_add]
      refine m_byte T1 (by omega) ?_
      rw [Nat.min_eq_left (by omega), cdF] at ih
      rw [Nat.min_eq_left (by omega), nI_1, kM_id (by omega)]
      have ey : ((((27 : Int32) * nI (cdF (fun i => ch t n (q + i) - 96) k)) + nI (ch t n (q + k))) - (97 : Int32)) + (1 : Int32) = nI (27 * cdF (fun i => ch t n (q + i) - 96) k + (ch t n (q + k) - 96)) := by
        have a1 : (27 : Int32) * nI (cdF (fun i => ch t n (q + i) - 96) k) = nI (27 * cdF (fun i => ch t n (q + i) - 96) k) := nI_mul 27 _
        have a2 : nI (ch t n (q + k)) = nI (ch t n (q + k) - 96) + (96 : Int32) := by rw [show (96 : Int32) = nI 96 from rfl, nI_add, show ch t n (q + k) - 96 + 96 = ch t n (q + k) by omega]
        rw [a1, a2, ← nI_add]; grind
      rw [ey]; exact ih
theorem m_skipWord {t : Nat → Nat} {n p : Nat} {Q : ac_m → Prop} {s : ac_m} (T : MT s t n) (hp : p ≤ n) (e4 : s 69 4 = nI p) (h : ∀ s', mvM s s' (p + rl t n p) → Q s') : w_X12_skipWord Q s := by
  have h6 := T.2.1.1
  have rle := rl_le (t := t) (n := n) (p := p) hp
  have ris := (rl_is (t := t) (n := n) (rl t n p) p).1 rfl
  unfold w_X12_skipWord l_X12_skipWord_0
  intro P hP
  refine loopUp (P := fun k => ∀ s', mvM s s' (p + k) → P s') (rl t n p) ?_ ?_ s (mvM.rfl' e4)
  · intro s1 m1
    refine hP _ ?_
    rw [m1.2.2]
    exact m_byte (MT_mv T m1) (by omega) (m_isS (ch_lt T.2.1 _) (fun z => absurd z ris.2) (fun _ => m_if0B (h s1 m1)))
  · intro k hk ih s1 m1
    refine hP _ ?_
    rw [m1.2.2]
    refine m_byte (MT_mv T m1) (by omega) (m_isS (ch_lt T.2.1 _) (fun _ => m_if1B ?_) (fun z => absurd (ris.1 k hk) z))
    rw [m1.2.2, nI_1]
    exact ih _ (mvM_u m1)
/-- a word's letters, 1 to 26 -/
def isW (i : Nat) (D : List Nat) : Prop := (ac_sb i).length = D.length ∧ D.length ≤ 6 ∧ ∀ k, k < D.length → (ac_sb i).getD k 0 = nI (96 + D.getD k 0) ∧ 1 ≤ D.getD k 0 ∧ D.getD k 0 ≤ 26
theorem wdA_rl {t : Nat → Nat} {n q i : Nat} {D : List Nat} (T : okT t n) (w : isW i D) : wdA t n q i ↔ (rl t n q = D.length ∧ ∀ k, k < D.length → ch t n (q + k) - 96 = D.getD k 0) := by
  obtain ⟨w1, w2, w3⟩ := w
  unfold wdA
  rw [w1]
  constructor
  · rintro ⟨h1, h2⟩
    have e : ∀ k, k < D.length → ch t n (q + k) = 96 + D.getD k 0 := fun k hk => by
      have := w3 k hk
      exact (kC_eq _ (ch_lt T _) (96 + D.getD k 0) (by omega)).1 ((h1 k hk).trans this.1)
    refine ⟨(rl_is _ _).2 ⟨fun k hk => ?_, h2⟩, fun k hk => by rw [e k hk]; omega⟩
    have := w3 k hk
    unfold sml
    rw [e k hk]; omega
  · rintro ⟨h1, h2⟩
    have ris := (rl_is (t := t) (n := n) D.length q).1 h1
    refine ⟨fun k hk => ?_, ris.2⟩
    have s1 : 97 ≤ ch t n (q + k) ∧ ch t n (q + k) ≤ 122 := ris.1 k hk
    have := h2 k hk
    rw [(w3 k hk).1]
    exact (kC_eq _ (ch_lt T _) _ (by have := w3 k hk; omega)).2 (by omega)
theorem wC_iff {t : Nat → Nat} {n q i : Nat} {D : List Nat} (T : okT t n) (w : isW i D) : wC t n q = nI (cdF (fun k => D.getD k 0) D.length) ↔ wdA t n q i := by
  rw [wdA_rl T w]
  obtain ⟨w1, w2, w3⟩ := w
  have ris := (rl_is (t := t) (n := n) (rl t n q) q).1 rfl
  have rg : ∀ k, k < rl t n q → 1 ≤ ch t n (q + k) - 96 ∧ ch t n (q + k) - 96 ≤ 26 := fun k hk => by
    have : 97 ≤ ch t n (q + k) ∧ ch t n (q + k) ≤ 122 := ris.1 k hk
    omega
  have bD := cdF_bd (g := fun k => D.getD k 0) D.length (fun k hk => (w3 k hk).2.2)
  have pD := p27 D.length (by omega)
  unfold wC
  constructor
  · intro h
    by_cases c : rl t n q ≤ 6
    · rw [if_pos c] at h
      have b1 := cdF_bd (g := fun k => ch t n (q + k) - 96) (rl t n q) (fun k hk => (rg k hk).2)
      have p1 := p27 (rl t n q) (by omega)
      have e := (nI_eq (by omega) (by omega)).1 h
      have r := cdF_inj _ _ rg (fun k hk => (w3 k hk).2) e
      exact ⟨r.1, fun k hk => r.2 k (by omega)⟩
    · rw [if_neg c] at h
      have := nI_pos' (n := cdF (fun k => D.getD k 0) D.length) (by omega)
      rw [← h] at this
      exact absurd this (by decide)
  · rintro ⟨h1, h2⟩
    rw [if_pos (by omega), h1]
    congr 1
    have : ∀ m, m ≤ D.length → cdF (fun i => ch t n (q + i) - 96) m = cdF (fun k => D.getD k 0) m := by
      intro m
      induction m with
      | zero => intro _; rfl
      | succ m ih => intro hm; rw [cdF, cdF, ih (by omega)]; congr 1; exact h2 m (by omega)
    exact this _ (Nat.le_refl _)
theorem m_isWord {t : Nat → Nat} {n p i : Nat} {D : List Nat} {a b c d e f : Int32} {Q : Int32 → ac_m → Prop} {s : ac_m} (T : MT s t n) (hp : p ≤ n) (e4 : s 69 4 = nI p) (e5 : s 69 5 = 0) (w : isW i D)
    (hs : ∀ (Q : Int32 → ac_m → Prop) s, Q (nI (cdF (fun k => D.getD k 0) D.length)) s → w_X12_six a b c d e f Q s)
    (h1 : wdA t n (skb t n p) i → ∀ s', mvM s s' (skb t n p) → Q 1 s') (h0 : ¬ wdA t n (skb t n p) i → ∀ s', mvM s s' (skb t n p) → Q 0 s') : w_X12_isWord a b c d e f Q s := by
  unfold w_X12_isWord
  refine ⟨fun z => absurd e5 z, fun _ => m_wordHere T hp e4 (fun s1 m1 => hs _ _ ?_)⟩
  have iff := wC_iff (q := skb t n p) T.2.1 w
  exact ⟨fun z => h0 (fun y => z (iff.2 y)) s1 m1, fun z => h1 (iff.1 z) s1 m1⟩
