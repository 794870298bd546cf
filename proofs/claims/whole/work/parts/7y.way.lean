/-! WAYS -/
/-- those who did a beast that is there for one of these -/
def dF (s : ac_m) (x : Int32) : Nat → Int32
  | 0 => 0
  | k + 1 => if decide (0 < s 556 k ∧ bt x (dR s k) = true) = true then dF s x k ||| ((1 : Int32) <<< (nI (dD s k) &&& 31)) else dF s x k
def sW (s : ac_m) (x : Int32) : Int32 := x ||| dF s x 12
def rW (s : ac_m) (f : Nat) : Nat → Int32
  | 0 => (1 : Int32) <<< (nI f &&& 31)
  | k + 1 => sW s (rW s f k)
theorem dF_more {s : ac_m} {x : Int32} {B : Nat} (i : Inv s) (hB : s 73 1 = nI B) (hb : B ≤ 12) : dF s x 12 = dF s x B := by
  have key : ∀ n, B ≤ n → n ≤ 12 → dF s x n = dF s x B := by
    intro n
    induction n with
    | zero => intro h _; rw [show B = 0 by omega]
    | succ n ih =>
      intro h1 h2
      by_cases e : B = n + 1
      · rw [e]
      · rw [dF, decide_eq_false (fun z => by rw [Inv_nb i hB (b := n) (by omega) (by omega)] at z; exact absurd z.1 (by decide)), if_neg (by decide)]
        exact ih (by omega) (by omega)
  exact key 12 hb (Nat.le_refl 12)
theorem c_doers {x : Int32} {Q : Int32 → ac_m → Prop} {s : ac_m} (i : Inv s) (h : Q (dF s x 12) s) : w_X3_doersFor x (bs (fun k => decide (0 < s (42 + 2) k)) 12) Q s := by
  unfold w_X3_doersFor l_X3_doersFor_5
  intro P hP
  refine loopUp (P := fun k => P (dF s x k) (nI k) s) 12 ?_ ?_
  · exact hP _ _ _ ⟨fun _ => h, fun hc => absurd (by decide) hc⟩
  · intro k hk ih
    have ok := dD_ok i hk
    have v13 : vp_in (nI k) 13 := vp_in_nI (by omega) (by omega)
    have a1 := and_bit (x := bs (fun k => decide (0 < s (42 + 2) k)) 12) (j := k) (by omega)
    have a2 := and_bit (x := x) (j := dR s k) (by omega)
    rw [bs_bt _ 12 (by omega), decide_eq_true hk, Bool.true_and, (Inv_m i (b := k) (by omega)).1] at a1
    refine hP _ _ _ ⟨fun z => absurd z (nI_ge (b := 12) hk (by omega)), fun _ => ?_⟩
    rw [cl_nI (by omega), ok.2.1, ok.2.2.2, nI_1]
    rw [dF] at ih
    refine ⟨fun z => ?_, fun z => ⟨v13, fun y => ?_, fun y => ⟨v13, ?_⟩⟩⟩
    · rw [decide_eq_false (fun w => absurd (a1.1 z) (by rw [decide_eq_true w.1]; decide)), if_neg (by decide)] at ih; exact ih
    · rw [decide_eq_false (fun w => absurd (a2.1 y) (by rw [w.2]; decide)), if_neg (by decide)] at ih; exact ih
    · have t1 : 0 < s 556 k := by
        by_cases c : 0 < s 556 k
        · exact c
        · exact absurd (a1.2 (decide_eq_false c)) z
      have t2 : bt x (dR s k) = true := by
        cases c : bt x (dR s k)
        · exact absurd (a2.2 c) y
        · rfl
      rw [decide_eq_true ⟨t1, t2⟩, if_pos rfl] at ih; exact ih
theorem m_further {x : Int32} {B : Nat} {Q : Int32 → ac_m → Prop} {s0 s : ac_m} (i : Inv s0) (hB : s0 73 1 = nI B) (hb : B ≤ 12) (k0 : kp s0 s) (h : Q (sW s0 x) s) : w_X12_further x Q s := by
  have d2 : ∀ f, f < 12 → isScr (102 + f) = false := by decide +kernel
  unfold sW at h
  rw [dF_more i hB hb] at h
  unfold w_X12_further l_X12_further_4
  intro P hP
  have go := loopUp (P := fun k => P (x ||| dF s0 x k) (nI k) s) B ?_ ?_
  · have e : x ||| dF s0 x 0 = x := Int32.or_zero
    rw [e] at go
    exact go
  · exact hP _ _ _ ⟨fun _ => h, fun hc => absurd (by rw [k0.1 73 rfl, show (s0 73 (1 : Int32).toNatClampNeg) = nI B from hB]; exact Int32.le_refl _) hc⟩
  · intro k hk ih
    have q := Inv_b i hB hb hk
    have ok := dD_ok i (show k < 12 by omega)
    have v13 : vp_in (nI k) 13 := vp_in_nI (by omega) (by omega)
    have sb := shr_bit (x := x) (j := dR s0 k) (by omega)
    have e9 : ∀ x : Int32, x ||| 0 = x := fun x => Int32.or_zero
    refine hP _ _ _ ⟨fun z => absurd z (by rw [k0.1 73 rfl, show (s0 73 (1 : Int32).toNatClampNeg) = nI B from hB]; exact nI_ge hk (by omega)), fun _ => ?_⟩
    rw [e9, nI_1]
    rw [dF] at ih
    refine m_isTh (by omega) (fun z => m_if0B ?_) (fun z => m_if1B ⟨v13, ?_⟩)
    · rw [k0.1 556 rfl] at z
      rw [decide_eq_false (fun w => absurd w.1 (by grind)), if_neg (by decide)] at ih; exact ih
    · rw [k0.1 556 rfl] at z
      rw [cl_nI (by omega), k0.1 _ (d2 k (by omega)), show s0 (102 + k) (1 : Int32).toNatClampNeg = nI (dR s0 k) from q.2.1.symm.trans ok.2.2.2]
      unfold w_X12_has
      refine ⟨fun y => m_if0B ?_, fun y => m_if1B ⟨v13, fun t ht => ?_⟩⟩
      · rw [decide_eq_false (fun w => y (sb.2 w.2)), if_neg (by decide)] at ih; exact ih
      · rw [decide_eq_true ⟨by grind, sb.1 y⟩, if_pos rfl, ← Int32.or_assoc] at ih
        rw [k0.1 _ (d2 k (by omega)), show s0 (102 + k) (0 : Int32).toNatClampNeg = nI (dD s0 k) from q.1.symm.trans ok.2.1] at ht
        rw [ht]; exact ih
/-! the ways end: no more folk than there are -/
theorem dF_bt {s : ac_m} {x : Int32} {F : Nat} (i : Inv s) (hF : s 73 0 = nI F) (hf : F ≤ 6) : ∀ k, k ≤ 12 → ∀ j, j < 32 → F ≤ j → bt (dF s x k) j = false
  | 0, _, j, _, _ => by rw [dF, b_0]
  | k + 1, hk, j, hj, hFj => by
    have ih := dF_bt (x := x) i hF hf k (by omega) j hj hFj
    obtain ⟨B, hb, hB, hC⟩ := Inv_B i
    rw [dF]
    by_cases c : 0 < s 556 k ∧ bt x (dR s k) = true
    · rw [decide_eq_true c, if_pos rfl, b_or, ih]
      have kB := Inv_there i hB hb (k := k) (by omega) (by grind)
      have g := Inv_b i hB hb kB
      have ok := dD_ok i (show k < 12 by omega)
      rw [hF] at g
      have lt : dD s k < F := by
        have := g.2.2.2.2.2.1
        rw [ok.2.1] at this
        exact (nI_ltI (by omega) (by omega)).1 this
      rw [bt_bit (by omega) hj, decide_eq_false (by omega)]
      rfl
    · rw [decide_eq_false c, if_neg (by decide)]; exact ih
theorem ns_full {m : Nat → Nat} : ∀ {n : Nat}, (∀ k, k < n → m k ≤ 1) → n ≤ ns m n → ∀ k, k < n → m k = 1
  | 0, _, _, k, hk => absurd hk (Nat.not_lt_zero k)
  | n + 1, h, hn, k, hk => by
    rw [ns] at hn
    have h1 := h n (by omega)
    have h2 := ns_bd (m := m) (c := 1) (n := n) (fun k hk => h k (by omega))
    by_cases e : k = n
    · rw [e]; omega
    · exact ns_full (n := n) (fun k hk => h k (by omega)) (by omega) k (by omega)
theorem ns_strict {m m' : Nat → Nat} : ∀ {n : Nat}, (∀ k, k < n → m k ≤ m' k) → ∀ j, j < n → m j < m' j → ns m n < ns m' n
  | 0, _, j, hj, _ => absurd hj (Nat.not_lt_zero j)
  | n + 1, h, j, hj, hl => by
    rw [ns, ns]
    by_cases e : j = n
    · subst e
      have := ns_le (n := j) (fun k hk => h k (by omega))
      omega
    · have := ns_strict (n := n) (fun k hk => h k (by omega)) j (by omega) hl
      have := h n (by omega)
      omega
def cb (x : Int32) (F : Nat) : Nat := ns (fun k => if bt x k = true then 1 else 0) F
theorem rW_bt {s : ac_m} {F f : Nat} (i : Inv s) (hF : s 73 0 = nI F) (hf : F ≤ 6) (hfF : f < F) : ∀ k j, j < 32 → F ≤ j → bt (rW s f k) j = false
  | 0, j, hj, hFj => by rw [rW, bt_bit (by omega) hj, decide_eq_false (by omega)]
  | k + 1, j, hj, hFj => by
    rw [rW, sW, b_or, rW_bt i hF hf hfF k j hj hFj, dF_bt i hF hf 12 (Nat.le_refl 12) j hj hFj]
    rfl
theorem rW_grow {s : ac_m} {F f : Nat} (i : Inv s) (hF : s 73 0 = nI F) (hf : F ≤ 6) (hfF : f < F) : ∀ k, sW s (rW s f k) = rW s f k ∨ k + 1 ≤ cb (rW s f k) F
  | 0 => by
    right
    have := ns_strict (n := F) (m := fun _ => 0) (m' := fun k => if bt (rW s f 0) k = true then 1 else 0) (fun _ _ => Nat.zero_le _) f hfF (by
      show 0 < if bt (rW s f 0) f = true then 1 else 0
      rw [rW, bt_bit (by omega) (by omega), decide_eq_true rfl, if_pos rfl]; omega)
    unfold cb
    omega
  | k + 1 => by
    rcases rW_grow i hF hf hfF k with h | h
    · left
      have e : rW s f (k + 1) = rW s f k := by rw [rW]; exact h
      rw [e]; exact h
    · by_cases c : sW s (rW s f k) = rW s f k
      · left
        have e : rW s f (k + 1) = rW s f k := by rw [rW]; exact c
        rw [e]; exact c
      · right
        have ex : ∃ j, j < 32 ∧ bt (rW s f k) j = false ∧ bt (sW s (rW s f k)) j = true := by
          refine Classical.byContradiction (fun no => c (b_ext fun j hj => ?_))
          cases d : bt (rW s f k) j
          · cases d2 : bt (sW s (rW s f k)) j
            · rfl
            · exact absurd ⟨j, hj, d, d2⟩ no
          · unfold sW; rw [b_or, d]; rfl
        obtain ⟨j, hj, j1, j2⟩ := ex
        have jF : j < F := by
          rcases Nat.lt_or_ge j F with q | q
          · exact q
          · have := rW_bt i hF hf hfF (k + 1) j hj q
            rw [rW, j2] at this; cases this
        have := ns_strict (n := F) (m := fun k' => if bt (rW s f k) k' = true then 1 else 0) (m' := fun k' => if bt (rW s f (k + 1)) k' = true then 1 else 0) (fun k' _ => by
          show (if bt (rW s f k) k' = true then 1 else 0) ≤ if bt (rW s f (k + 1)) k' = true then 1 else 0
          by_cases d : bt (rW s f k) k' = true
          · rw [if_pos d, if_pos (by rw [rW, sW, b_or, d]; rfl)]; omega
          · rw [if_neg d]; omega) j jF (by
          show (if bt (rW s f k) j = true then 1 else 0) < if bt (rW s f (k + 1)) j = true then 1 else 0
          rw [j1, if_neg (by decide), if_pos (by rw [rW]; exact j2)]; omega)
        unfold cb at h ⊢
        omega
/-- after as many steps as there are others, nothing is new -/
theorem rW_fix {s : ac_m} {F f : Nat} (i : Inv s) (hF : s 73 0 = nI F) (hf : F ≤ 6) (hfF : f < F) : ∀ n, rW s f (F - 1 + n) = rW s f (F - 1) := by
  have fx : sW s (rW s f (F - 1)) = rW s f (F - 1) := by
    rcases rW_grow i hF hf hfF (F - 1) with h | h
    · exact h
    · refine b_ext fun j hj => ?_
      unfold sW
      rw [b_or]
      rcases Nat.lt_or_ge j F with q | q
      · have := ns_full (n := F) (m := fun k => if bt (rW s f (F - 1)) k = true then 1 else 0) (fun k _ => by show (if _ then 1 else 0) ≤ 1; split <;> omega) (by unfold cb at h; omega) j q
        have d : bt (rW s f (F - 1)) j = true := by
          by_cases c : bt (rW s f (F - 1)) j = true
          · exact c
          · change (if bt (rW s f (F - 1)) j = true then 1 else 0) = 1 at this
            rw [if_neg c] at this; omega
        rw [d]; rfl
      · rw [dF_bt i hF hf 12 (Nat.le_refl 12) j hj q, Bool.or_false]
  intro n
  induction n with
  | zero => rfl
  | succ n ih => rw [show F - 1 + (n + 1) = F - 1 + n + 1 by omega, rW, ih]; exact fx
theorem s_round (p : Int32) (s : ac_m) (i : Inv s) : simX thN (w_X11_round p) (w_X12_round p) s := by
  obtain ⟨B, hb, hB, hC⟩ := Inv_B i
  obtain ⟨F, hf, hF, hD⟩ := Inv_F i
  have hn := i.1.1.1
  unfold simX w_X11_round w_X11_needFolk
  refine c_number (fun h1 h2 => ?_) (fun z => ?_)
  rotate_left
  · rw [hD, ← hF] at z
    have e : (ac_u (ac_u s 0 15 (s 0 15 + 1)) 69 0 0) 73 = s 73 := by rw [u_ne (by decide), u_ne (by decide)]
    unfold w_X12_round
    exact m_folk (by rw [e]; exact hn) (fun a b => (z ⟨a, by rw [e] at b; exact b⟩).elim) (fun _ => m_if0A (m_bad1 u_eq (by decide) in2_0 (m_if1B ⟨⟨rfl, bad_69⟩, Inv_bad0 i⟩)))
  rw [hD] at h2
  obtain ⟨f, hfF, ef⟩ := of_in (by omega) h1 h2
  subst ef
  have e73 : (ac_u s 69 0 0) 73 = s 73 := u_ne (by decide)
  have fin : w_X12_round (nI f) (fun b s2 => rW s f 5 = b ∧ s2 69 0 = 0 ∧ Inv s2) s := by
    unfold w_X12_round
    refine m_folk (by rw [e73]; exact hn) (fun _ _ => m_if1A (m_bad0 u_eq (m_if0B ?_))) (fun z => (z ⟨h1, by rw [e73, hF]; exact h2⟩).elim)
    unfold l_X12_round_35
    intro P hP
    refine loopUp (P := fun k => P (rW s f k) (nI k) (ac_u s 69 0 0)) F ?_ ?_
    · refine hP _ _ _ ⟨fun _ => ⟨?_, u_eq, Inv_0 i⟩, fun z => absurd (by rw [e73, show s 73 (0 : Int32).toNatClampNeg = nI F from hF]; exact Int32.le_refl _) z⟩
      have a := rW_fix i hF hf hfF (5 - (F - 1))
      have b := rW_fix i hF hf hfF 1
      rw [show F - 1 + (5 - (F - 1)) = 5 by omega] at a
      rw [show F - 1 + 1 = F by omega] at b
      rw [a, b]
    · intro k hk ih
      refine hP _ _ _ ⟨fun z => absurd z (by rw [e73, show s 73 (0 : Int32).toNatClampNeg = nI F from hF]; exact nI_ge hk (by omega)), fun _ => m_further i hB hb kp_0 ?_⟩
      rw [nI_1]
      exact ih
  unfold l_X11_round_11
  intro P hP
  refine loopUp (P := fun k => P (rW s f k) (nI (k + 1)) s) 5 ?_ ?_
  · exact hP _ _ _ ⟨fun _ => fin, fun z => absurd (by decide) z⟩
  · intro k hk ih
    refine hP _ _ _ ⟨fun z => absurd z (nI_ge (b := 6) (by omega) (by omega)), fun _ => c_there (c_doers i ?_)⟩
    rw [nI_1]
    exact ih
theorem s_way (p q : Int32) (s : ac_m) (i : Inv s) : simX thN (w_X11_way p q) (w_X12_way p q) s := by
  obtain ⟨B, hb, hB, hC⟩ := Inv_B i
  obtain ⟨F, hf, hF, hD⟩ := Inv_F i
  have hn := i.1.1.1
  have eb : (ac_u (ac_u s 0 15 (s 0 15 + 1)) 69 0 0) 73 = s 73 := by rw [u_ne (by decide), u_ne (by decide)]
  unfold simX w_X11_way w_X11_needFolk
  refine c_number (fun h1 h2 => c_number (fun h3 h4 => ?_) (fun z => ?_)) (fun z => ?_)
  rotate_left
  · rw [hD, ← hF] at z h2
    unfold w_X12_way
    exact m_folk (by rw [eb]; exact hn) (fun _ _ => m_if1B (m_folk (by rw [eb]; exact hn) (fun a b => (z ⟨a, by rw [eb] at b; exact b⟩).elim) (fun _ => m_if0A (m_bad1 u_eq (by decide) in2_0 (m_if1B ⟨⟨rfl, bad_69⟩, Inv_bad0 i⟩))))) (fun y => (y ⟨h1, by rw [eb]; exact h2⟩).elim)
  · rw [hD, ← hF] at z
    unfold w_X12_way
    exact m_folk (by rw [eb]; exact hn) (fun a b => (z ⟨a, by rw [eb] at b; exact b⟩).elim) (fun _ => m_if0B (m_bad1 u_eq (by decide) in2_0 (m_if1B ⟨⟨rfl, bad_69⟩, Inv_bad0 i⟩)))
  rw [hD] at h2 h4
  obtain ⟨f, hfF, ef⟩ := of_in (by omega) h1 h2
  subst ef
  obtain ⟨g, hgF, eg⟩ := of_in (by omega) h3 h4
  subst eg
  have e73 : (ac_u s 69 0 0) 73 = s 73 := u_ne (by decide)
  obtain ⟨b, hbF, b1, b2⟩ := cut0 (p := fun k => bt (rW s f k) g = true) F
  have far : b = F → ∀ k, k < 6 → ¬ bt (rW s f k) g = true := by
    intro e k hk
    rcases Nat.lt_or_ge k F with q | q
    · exact b1 k (by omega)
    · have := rW_fix i hF hf hfF (k - (F - 1))
      rw [show F - 1 + (k - (F - 1)) = k by omega] at this
      rw [this]
      exact b1 (F - 1) (by omega)
  have fin : ∀ v, v = (if b = F then -1 else nI b) → w_X12_way (nI f) (nI g) (fun b s2 => v = b ∧ s2 69 0 = 0 ∧ Inv s2) s := by
    intro v hv
    unfold w_X12_way
    refine m_folk (by rw [e73]; exact hn) (fun _ _ => m_if1B (m_folk (by rw [e73]; exact hn) (fun _ _ => m_if1A (m_bad0 u_eq (m_if0B ?_))) (fun z => (z ⟨h3, by rw [e73, hF]; exact h4⟩).elim))) (fun z => (z ⟨h1, by rw [e73, hF]; exact h2⟩).elim)
    unfold l_X12_way_44
    intro P hP
    have sb : ∀ k, _ := fun k => shr_bit (x := rW s f k) (j := g) (by omega)
    refine loopUp (P := fun k => P (rW s f k) (nI k) (ac_u s 69 0 0)) b ?_ ?_
    · rcases Nat.lt_or_ge b F with h | h
      · refine hP _ _ _ ⟨fun z => absurd z (by rw [e73, show s 73 (0 : Int32).toNatClampNeg = nI F from hF]; exact nI_ge h (by omega)), fun _ => ?_⟩
        unfold w_X12_has
        exact ⟨fun z => absurd ((sb b).2 (b2 h)) z, fun _ => m_if1B ⟨by rw [hv, if_neg (by omega)], u_eq, Inv_0 i⟩⟩
      · have : b = F := by omega
        subst this
        exact hP _ _ _ ⟨fun _ => ⟨by rw [hv, if_pos rfl], u_eq, Inv_0 i⟩, fun z => absurd (by rw [e73, show s 73 (0 : Int32).toNatClampNeg = nI b from hF]; exact Int32.le_refl _) z⟩
    · intro k hk ih
      refine hP _ _ _ ⟨fun z => absurd z (by rw [e73, show s 73 (0 : Int32).toNatClampNeg = nI F from hF]; exact nI_ge (show k < F by omega) (by omega)), fun _ => ?_⟩
      unfold w_X12_has
      refine ⟨fun z => m_if0B (m_further i hB hb kp_0 ?_), fun z => absurd ((sb k).1 z) (b1 k hk)⟩
      rw [nI_1]
      exact ih
  unfold l_X11_way_17
  intro P hP
  have ab : ∀ k, _ := fun k => and_bit (x := rW s f k) (j := g) (by omega)
  have step : ∀ k, k < 6 → ¬ bt (rW s f k) g = true → P (rW s f (k + 1)) (nI (k + 1)) s → P (rW s f k) (nI k) s := by
    intro k hk no ih
    refine hP _ _ _ ⟨fun z => absurd z (nI_ge (b := 6) hk (by omega)), fun _ => ⟨fun z => c_there (c_doers i ?_), fun z => absurd ((ab k).2 (by cases c : bt (rW s f k) g; rfl; exact absurd c no)) z⟩⟩
    rw [nI_1]
    exact ih
  rcases Nat.lt_or_ge b F with h | h
  · refine loopUp (P := fun k => P (rW s f k) (nI k) s) b ?_ (fun k hk ih => step k (by omega) (b1 k hk) ih)
    refine hP _ _ _ ⟨fun z => absurd z (nI_ge (b := 6) (by omega) (by omega)), fun _ => ⟨fun z => absurd (b2 h) (by rw [(ab b).1 z]; decide), fun _ => fin _ (by rw [if_neg (by omega)])⟩⟩
  · have e : b = F := by omega
    refine loopUp (P := fun k => P (rW s f k) (nI k) s) 6 ?_ (fun k hk ih => step k hk (far e k hk) ih)
    exact hP _ _ _ ⟨fun _ => fin _ (by rw [if_pos e]), fun z => absurd (by decide) z⟩
