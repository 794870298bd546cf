/-! HOME, BOTH SIDES -/
theorem l_ne {t : Nat → Nat → Int64} {a k b : Nat} {x : Int64} (h : b ≠ a) : ac_uL t a k x b = t b := if_neg h
theorem l_at {t : Nat → Nat → Int64} {a k j : Nat} {x : Int64} (h : j ≠ k) : ac_uL t a k x a j = t a j := by unfold ac_uL vp_updL; rw [if_pos rfl, if_neg h]
theorem l_eq {t : Nat → Nat → Int64} {a k : Nat} {x : Int64} : ac_uL t a k x a k = x := by unfold ac_uL vp_updL; rw [if_pos rfl, if_pos rfl]
theorem pow16 (n : Nat) : 16 ^ n = 2 ^ (4 * n) := by rw [show (16 : Nat) = 2 ^ 4 from rfl, ← Nat.pow_mul]
theorem whole_all : ∀ n, n < 13 → (1 : Int64) <<< (((4 : Int32) * nI n).toInt64 &&& 63) = lN (2 ^ (4 * n)) := by decide +kernel
theorem p48 : ∀ n, n < 13 → 2 ^ (4 * n) ≤ 281474976710656 := by decide +kernel
/-- what both answer -/
def hmV (n k q : Nat) (part : Int32) : Int64 := if part = 0 then lN (ns (ex q n) (k + 1) / Nat.gcd (ns (ex q n) (k + 1)) (2 ^ (4 * n))) else lN (2 ^ (4 * n) / Nat.gcd (ns (ex q n) (k + 1)) (2 ^ (4 * n)))
theorem c_home {n k q : Nat} {part : Int32} {Q : Int64 → ac_m → Prop} {s : ac_m} (hn : n ≤ 12) (hk : k ≤ 12) (hq : q ≤ 16) (h : Q (hmV n k q part) s) : w_X8_homeFraction (nI n) (nI k) (nI q) part Q s := by
  have p4 := p48 n (by omega)
  have bd := ex_bd hq n (k + 1)
  rw [pow16] at bd
  have e16 : (16 : Int32) - nI q = nI (16 - q) := by
    have := nI_add (16 - q) q
    rw [show 16 - q + q = 16 by omega] at this
    have h9 : (16 : Int32) = nI 16 := rfl
    rw [h9, ← this]; grind
  have tail : ∀ m, ns (ex q n) m = ns (ex q n) (k + 1) → w_X8_power (16 : Int32) (nI n) (fun r72 s72 => l_X8_homeFraction_80 (nI n) (nI k) (nI q) part Q part (lN (ns (ex q n) m)) r72 0 s72) s := by
    intro m em
    refine c_power (b := 16) (by omega) (by omega) ?_
    rw [em, pow16]
    exact c_cut (4 * n) (by omega) _ (by omega) h
  unfold w_X8_homeFraction l_X8_homeFraction_9
  intro P hP
  suffices go : P (lN (ns (ex q n) 0)) (lN (bn n 0)) (nI 0) s by
    rw [bn_0] at go
    exact go
  refine loopUp (P := fun i => P (lN (ns (ex q n) i)) (lN (bn n i)) (nI i) s) (min n k + 1) ?_ ?_
  · rcases Nat.le_total n k with c | c
    · rw [Nat.min_eq_left c]
      refine hP _ _ _ _ ⟨fun _ => tail _ ?_, fun z => absurd (nI_lt (by omega) (by omega)) z⟩
      exact (ns_more (m := n + 1) (n := k + 1) (by omega) (fun j j1 j2 => ex_hi (by omega))).symm
    · rw [Nat.min_eq_right c]
      exact hP _ _ _ _ ⟨fun _ => tail _ rfl, fun _ => ⟨fun _ => tail _ rfl, fun z => absurd (nI_lt (by omega) (by omega)) z⟩⟩
  · intro i hi ih
    have hin : i ≤ n ∧ i ≤ k := ⟨Nat.le_trans (by omega) (Nat.min_le_left n k), Nat.le_trans (by omega) (Nat.min_le_right n k)⟩
    have ch := ch_all n (by omega) i (by omega) hin.1
    have esub : nI n - nI i = nI (n - i) := by
      have := nI_add (n - i) i
      rw [show n - i + i = n by omega] at this
      rw [← this]; grind
    refine hP _ _ _ _ ⟨fun z => absurd z (nI_nlt (by omega) (by omega)), fun _ => ⟨fun z => absurd z (nI_nlt (by omega) (by omega)), fun _ => ?_⟩⟩
    rw [e16]
    refine c_power (by omega) (by omega) ?_
    show w_X8_power (nI q) (nI n - nI i) _ s
    rw [esub]
    refine c_power (by omega) (by omega) ?_
    rw [nI_1, nI_l (n := i + 1) (by omega), nI_l (n := n - i) (by omega), lN_mul, lN_mul, lN_mul, lN_add]
    have nm : bn n i * (n - i) ≤ 924 * 12 := Nat.mul_le_mul ch.2 (by omega)
    rw [lN_div (by omega) (by omega), ch.1]
    refine ⟨fun z => ?_, ?_⟩
    · have := (lN_z (n := i + 1) (by omega)).1 z
      omega
    · rw [ns] at ih
      exact ih
theorem s_home (p1 p2 p3 p4 : Int32) (s : ac_m) (i : Inv s) : w_X11_home p1 p2 p3 p4 (fun r s1 => ∀ t, w_X12_home p1 p2 p3 p4 (fun b s2 t2 => r = b ∧ s2 69 0 = 0 ∧ Inv s2 ∧ ∀ y, y ≠ 584 → t2 y = t y) s1 t) (fun E s1 => ∀ t, w_X12_home p1 p2 p3 p4 (fun _ s2 t2 => thA E (s2 69 0) ∧ Inv s2 ∧ ∀ y, y ≠ 584 → t2 y = t y) s1 t) s := by
  unfold w_X11_home
  refine c_within (fun a0 b0 => ?_) (fun h t => ?_)
  rotate_left
  · unfold w_X12_home
    refine m_inB (fun a b => absurd ⟨a, b⟩ h) (fun _ => ?_)
    exact m_bad1 u_eq (by decide) in2_1 (m_if1B ⟨⟨rfl, bad_69⟩, Inv_bad1 i, fun _ _ => rfl⟩)
  refine c_within (fun a1 b1 => ?_) (fun h t => ?_)
  rotate_left
  · unfold w_X12_home
    refine m_inB (fun _ _ => ?_) (fun z => absurd ⟨a0, b0⟩ z)
    refine m_inB (fun a b => absurd ⟨a, b⟩ h) (fun _ => ?_)
    exact m_bad1 u_eq (by decide) in2_1 (m_if1B ⟨⟨rfl, bad_69⟩, Inv_bad1 i, fun _ _ => rfl⟩)
  refine c_within (fun a2 b2 => ?_) (fun h t => ?_)
  rotate_left
  · unfold w_X12_home
    refine m_inB (fun _ _ => ?_) (fun z => absurd ⟨a0, b0⟩ z)
    refine m_inB (fun _ _ => ?_) (fun z => absurd ⟨a1, b1⟩ z)
    refine m_inB (fun a b => absurd ⟨a, b⟩ h) (fun _ => ?_)
    exact m_bad1 u_eq (by decide) in2_1 (m_if1B ⟨⟨rfl, bad_69⟩, Inv_bad1 i, fun _ _ => rfl⟩)
  refine c_within (fun a3 b3 => ?_) (fun h t => ?_)
  rotate_left
  · unfold w_X12_home
    refine m_inB (fun _ _ => ?_) (fun z => absurd ⟨a0, b0⟩ z)
    refine m_inB (fun _ _ => ?_) (fun z => absurd ⟨a1, b1⟩ z)
    refine m_inB (fun _ _ => ?_) (fun z => absurd ⟨a2, b2⟩ z)
    refine m_inA (fun a b => absurd ⟨a, b⟩ h) (fun _ => ?_)
    exact m_bad1 u_eq (by decide) in2_1 (m_if1B ⟨⟨rfl, bad_69⟩, Inv_bad1 i, fun _ _ => rfl⟩)
  obtain ⟨n, hn, en⟩ := nI_of2 (M := 12) (n := 12) rfl (show ¬ p1 < 0 by grind) b0
  obtain ⟨k, hk, ek⟩ := nI_of2 (M := 12) (n := 12) rfl (show ¬ p2 < 0 by grind) b1
  obtain ⟨q, hq, eq⟩ := nI_of2 (M := 16) (n := 16) rfl (show ¬ p3 < 0 by grind) b2
  subst en ek eq
  refine c_home hn hk hq (fun t => ?_)
  have P4 := p48 n (by omega)
  have bd := ex_bd hq n (k + 1)
  rw [pow16] at bd
  have e16 : (16 : Int32) - nI q = nI (16 - q) := by
    have := nI_add (16 - q) q
    rw [show 16 - q + q = 16 by omega] at this
    have h9 : (16 : Int32) = nI 16 := rfl
    rw [h9, ← this]; grind
  unfold w_X12_home
  refine m_inB (fun _ _ => ?_) (fun z => absurd ⟨a0, b0⟩ z)
  refine m_inB (fun _ _ => ?_) (fun z => absurd ⟨a1, b1⟩ z)
  refine m_inB (fun _ _ => ?_) (fun z => absurd ⟨a2, b2⟩ z)
  refine m_inA (fun _ _ => ?_) (fun z => absurd ⟨a3, b3⟩ z)
  refine m_bad0 u_eq (m_if0B ?_)
  unfold l_X12_home_64
  intro P hP
  refine loopUp (P := fun j => ∀ t', (∀ y, y ≠ 584 → t' y = t y) → (∀ l, l < j → t' 584 l = lN (ex q 0 l)) → P (nI j) (ac_u s 69 0 0) t') 14 ?_ ?_ t (fun _ _ => rfl) (fun l hl => absurd hl (Nat.not_lt_zero l))
  rotate_left
  · intro j hj ih t' f g
    have v14 : vp_in (nI j) 14 := vp_in_nI hj (by omega)
    refine hP _ _ _ ⟨fun z => absurd z (nI_ge (b := 14) hj (by omega)), fun _ => ?_⟩
    rw [nI_1, cl_nI (by omega)]
    refine ⟨fun z => ⟨v14, ih _ (fun y hy => by rw [l_ne hy]; exact f y hy) (fun l hl => ?_)⟩, fun z => ⟨v14, ih _ (fun y hy => by rw [l_ne hy]; exact f y hy) (fun l hl => ?_)⟩⟩
    · by_cases e : l = j
      · have : 0 < j := by
          rcases Nat.eq_zero_or_pos j with y | y
          · subst y; exact absurd rfl z
          · exact y
        rw [e, l_eq, ex_hi (by omega)]; rfl
      · rw [l_at e]; exact g l (by omega)
    · have j0 : j = 0 := by
        rcases Nat.eq_zero_or_pos j with y | y
        · exact y
        · exact absurd z (nI_ne0 y (by omega))
      subst j0
      have : l = 0 := by omega
      subst this
      rw [l_eq]; unfold ex; simp [bn]; rfl
  intro t1 f1 g1
  refine hP _ _ _ ⟨fun _ => ?_, fun z => absurd (by decide) z⟩
  unfold l_X12_home_97
  intro P2 hP2
  refine loopUp (P := fun e => ∀ t', (∀ y, y ≠ 584 → t' y = t y) → (∀ l, l < 14 → t' 584 l = lN (ex q e l)) → P2 (nI e) (ac_u s 69 0 0) t') n ?_ ?_ t1 f1 g1
  rotate_left
  · intro e he ih t' f g
    refine hP2 _ _ _ ⟨fun z => absurd z (nI_ge he (by omega)), fun _ => ?_⟩
    unfold l_X12_home_107
    intro P3 hP3
    have dn : ∀ i, i ≤ 13 → ∀ t', (∀ y, y ≠ 584 → t' y = t y) → (∀ l, l < 14 → t' 584 l = lN (if i < l then ex q (e + 1) l else ex q e l)) → P3 (nI i) (ac_u s 69 0 0) t' := by
      intro i
      induction i with
      | zero =>
        intro _ t2 f2 g2
        refine hP3 _ _ _ ⟨fun z => absurd z (by decide), fun _ => ⟨vp_in_nI (n := 0) (by omega) (by omega), fun _ => ⟨vp_in_nI (n := 0) (by omega) (by omega), ?_⟩, fun z => absurd (by decide) z⟩⟩
        have g0 := g2 0 (by omega)
        rw [if_neg (by omega)] at g0
        rw [cl_nI (n := 0) (by omega), g0, nI_l (n := q) (by omega), lN_mul, show (0 : Int64) = lN 0 from rfl, lN_add, Nat.add_zero, ← ex_s0]
        refine hP3 _ _ _ ⟨fun _ => ?_, fun z => absurd (by decide) z⟩
        rw [nI_1]
        refine ih _ (fun y hy => by rw [l_ne hy]; exact f2 y hy) (fun l hl => ?_)
        by_cases c : l = 0
        · rw [c, l_eq]
        · rw [l_at c, g2 l hl, if_pos (by omega)]
      | succ i ihi =>
        intro hi t2 f2 g2
        have v14 : vp_in (nI (i + 1)) 14 := vp_in_nI (by omega) (by omega)
        have p1 : nI (i + 1) - (1 : Int32) = nI i := nI_pred i
        have p2 : nI (i + 1) + (-1 : Int32) = nI i := nI_m1 (by omega)
        refine hP3 _ _ _ ⟨fun z => absurd z (nI_pos (by omega)), fun _ => ⟨v14, fun z => absurd z (nI_nle (by omega) (by omega)), fun _ => ?_⟩⟩
        have ga := g2 (i + 1) (by omega)
        have gb := g2 i (by omega)
        rw [if_neg (by omega)] at ga gb
        rw [p1, p2, cl_nI (n := i + 1) (by omega), cl_nI (n := i) (by omega), ga, gb, e16, nI_l (n := q) (by omega), nI_l (n := 16 - q) (by omega), lN_mul, lN_mul, lN_add, ← ex_s]
        refine ⟨vp_in_nI (by omega) (by omega), v14, ihi (by omega) _ (fun y hy => by rw [l_ne hy]; exact f2 y hy) (fun l hl => ?_)⟩
        by_cases c : l = i + 1
        · rw [c, l_eq, if_pos (by omega)]
        · rw [l_at c, g2 l hl]
          by_cases d : i + 1 < l
          · rw [if_pos d, if_pos (by omega)]
          · rw [if_neg d, if_neg (by omega)]
    exact dn 13 (Nat.le_refl 13) t' f (fun l hl => by rw [if_neg (by omega)]; exact g l hl)
  intro t2 f2 g2
  refine hP2 _ _ _ ⟨fun _ => ?_, fun z => absurd (Int32.le_refl _) z⟩
  rw [whole_all n (by omega)]
  unfold l_X12_home_179
  intro P3 hP3
  refine loopUp (P := fun j => P3 (lN (ns (ex q n) j)) (nI j) (ac_u s 69 0 0) t2) (k + 1) ?_ ?_
  · refine hP3 _ _ _ _ ⟨fun _ => ?_, fun z => absurd (nI_lt (by omega) (by omega)) z⟩
    unfold l_X12_home_211
    intro P5 hP5
    refine m_euclid (P := fun x y => P5 x y (ac_u s 69 0 0) t2) (by omega) (by omega) ?_ (fun a b ha hb hb0 ih => ?_)
    · have gp : 0 < Nat.gcd (2 ^ (4 * n)) (ns (ex q n) (k + 1)) := Nat.gcd_pos_of_pos_left _ (Nat.pow_pos (by decide))
      have gl : Nat.gcd (2 ^ (4 * n)) (ns (ex q n) (k + 1)) ≤ 2 ^ (4 * n) := Nat.gcd_le_left _ (Nat.pow_pos (by decide))
      have nz : ¬ lN (Nat.gcd (2 ^ (4 * n)) (ns (ex q n) (k + 1))) = 0 := fun z => by have := (lN_z (by omega)).1 z; omega
      refine hP5 _ _ _ _ ⟨fun _ => ⟨fun z => ⟨nz, ?_, u_eq, Inv_0 i, f2⟩, fun z => ⟨nz, ?_, u_eq, Inv_0 i, f2⟩⟩, fun z => absurd ((lg_cmp_eq _ _).2 rfl) z⟩
      · unfold hmV
        rw [if_neg z, lN_div (by omega) (by omega), Nat.gcd_comm]
      · unfold hmV
        rw [if_pos z, lN_div (by omega) (by omega), Nat.gcd_comm]
    · have nz : ¬ lN b = 0 := fun z => hb0 ((lN_z hb).1 z)
      refine hP5 _ _ _ _ ⟨fun z => absurd ((lg_cmp_eq _ _).1 z) nz, fun _ => ⟨nz, ?_⟩⟩
      rw [lN_mod ha hb]
      exact ih
  · intro j hj ih
    refine hP3 _ _ _ _ ⟨fun z => absurd z (nI_nlt (by omega) (by omega)), fun _ => ⟨vp_in_nI (by omega) (by omega), ?_⟩⟩
    rw [cl_nI (by omega), g2 j (by omega), lN_add, nI_1]
    rw [ns] at ih
    exact ih
