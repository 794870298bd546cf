/-! SHARE -/
def ns (m : Nat → Nat) : Nat → Nat
  | 0 => 0
  | k + 1 => ns m k + m k
theorem sm_ns {f : Nat → Int32} {m : Nat → Nat} : ∀ {n : Nat}, (∀ k, k < n → f k = nI (m k)) → sm f n = nI (ns m n)
  | 0, _ => rfl
  | n + 1, h => by rw [sm, ns, sm_ns (n := n) (fun k hk => h k (by omega)), h n (by omega), nI_add]
theorem ns_le {m m' : Nat → Nat} : ∀ {n : Nat}, (∀ k, k < n → m k ≤ m' k) → ns m n ≤ ns m' n
  | 0, _ => Nat.le_refl _
  | n + 1, h => by
    have := ns_le (n := n) (fun k hk => h k (by omega))
    have := h n (by omega)
    unfold ns
    omega
theorem ns_bd {m : Nat → Nat} {c : Nat} : ∀ {n : Nat}, (∀ k, k < n → m k ≤ c) → ns m n ≤ n * c
  | 0, _ => Nat.zero_le _
  | n + 1, h => by
    have := ns_bd (n := n) (fun k hk => h k (by omega))
    have := h n (by omega)
    unfold ns
    rw [Nat.succ_mul]
    omega
/-- what folk k gets below the bound v -/
def gv (x : Nat → Int32) (p v : Int32) (k : Nat) : Int32 := if bt p k = true then (if 99 - x (39 + k) < v then 99 - x (39 + k) else v) else 0
theorem c_given {p v : Int32} {Q : Int32 → ac_m → Prop} {s : ac_m} (i : Inv s) (h : Q (sm (gv (s 556) p v) 6) s) : w_X5_givenBelow 42 v p Q s := by
  unfold w_X5_givenBelow l_X5_givenBelow_5
  intro P hP
  refine loopUp (P := fun k => P (sm (gv (s 556) p v) k) (nI k) s) 6 ?_ ?_
  · exact hP _ _ _ ⟨fun _ => h, fun hc => absurd (by decide) hc⟩
  · intro k hk ih
    have e1 := cl_nI (n := k) (by omega)
    have e4 := nI_1 k
    have e2 : vp_in (nI k) 6 := vp_in_nI (by omega) (by omega)
    have e5 := and_bit (x := p) (j := k) (by omega)
    have e6 := i.2.1.2.1 k hk
    refine hP _ _ _ ⟨fun z => absurd z (nI_ge (b := 6) hk (by omega)), fun _ => ⟨fun z => ?_, fun z => ⟨e2, fun y hy => ?_⟩⟩⟩
    · rw [sm, gv, if_neg (by rw [e5.1 z]; decide), Int32.add_zero] at ih
      rw [e4]; exact ih
    · have c : bt p k = true := by cases hc : bt p k with
        | true => rfl
        | false => exact absurd (e5.2 hc) z
      rw [sm, gv, if_pos c] at ih
      rw [e4, hy, e1, e6]; exact ih
theorem m_given {p v : Int32} {F : Nat} {Q : Int32 → ac_m → Prop} {s : ac_m} (hF : s 73 0 = nI F) (hf : F ≤ 6) (h : Q (sm (gv (s 556) p v) F) s) : w_X12_givenBy p v Q s := by
  unfold w_X12_givenBy l_X12_givenBy_5
  intro P hP
  refine loopUp (P := fun k => P (sm (gv (s 556) p v) k) (nI k) s) F ?_ ?_
  · exact hP _ _ _ ⟨fun _ => h, fun hc => absurd (by rw [show (s 73 (0 : Int32).toNatClampNeg) = nI F from hF]; exact Int32.le_refl _) hc⟩
  · intro k hk ih
    have e4 := nI_1 k
    have f39 : (39 : Int32) + nI k = nI (39 + k) := nI_add 39 k
    have g39 := cl_nI (n := 39 + k) (by omega)
    have h39 : vp_in (nI (39 + k)) 83 := vp_in_nI (by omega) (by omega)
    have sb := shr_bit (x := p) (j := k) (by omega)
    refine hP _ _ _ ⟨fun z => absurd z (by rw [show (s 73 (0 : Int32).toNatClampNeg) = nI F from hF]; exact nI_ge hk (by omega)), fun _ => ?_⟩
    unfold w_X12_has
    refine ⟨fun z => m_if0B ?_, fun z => m_if1B ?_⟩
    · rw [sm, gv, if_neg (fun e => z (sb.2 e))] at ih
      rw [e4]; exact ih
    · rw [sm, gv, if_pos (sb.1 z)] at ih
      unfold w_X12_missing w_X12_less
      rw [f39, g39, e4]
      refine ⟨h39, fun z => ?_, fun z => ?_⟩
      · by_cases c : 99 - s 556 (39 + k) < v
        · rw [if_pos c] at ih; exact ih
        · rw [if_neg c] at ih
          have : 99 - s 556 (39 + k) = v := by grind
          rw [this]; exact ih
      · rw [if_neg (by grind)] at ih; exact ih
theorem cut1 {p : Nat → Prop} : ∀ (N : Nat), ∃ b, b ≤ N ∧ (∀ j, 1 ≤ j → j ≤ b → ¬ p j) ∧ (b < N → p (b + 1))
  | 0 => ⟨0, Nat.le_refl 0, fun j h1 h2 => by omega, fun h => absurd h (Nat.lt_irrefl 0)⟩
  | N + 1 => by
    obtain ⟨b, hb, h1, h2⟩ := cut1 (p := p) N
    rcases Nat.lt_or_ge b N with h | h
    · exact ⟨b, by omega, h1, fun _ => h2 h⟩
    · have e : b = N := by omega
      subst e
      by_cases c : p (b + 1)
      · exact ⟨b, by omega, h1, fun _ => c⟩
      · refine ⟨b + 1, by omega, fun j j1 j2 => ?_, fun z => absurd z (Nat.lt_irrefl _)⟩
        by_cases e : j = b + 1
        · rw [e]; exact c
        · exact h1 j j1 (by omega)
theorem gv_nI {s : ac_m} (i : Inv s) {p : Int32} {k : Nat} (hk : k < 6) {v : Nat} (hv : v ≤ 99) : gv (s 556) p (nI v) k = nI (if bt p k = true then min v (99 - (s 556 (39 + k)).toNatClampNeg) else 0) := by
  have w := i.2.2.1.2.1 k hk
  obtain ⟨g, hg, e⟩ := nI_of2 (M := 99) (n := 99) rfl (show ¬ s 556 (39 + k) < 0 by grind) w.2.1
  have d : (99 : Int32) - nI g = nI (99 - g) := by
    have := nI_add (99 - g) g
    rw [show 99 - g + g = 99 by omega] at this
    have h9 : (99 : Int32) = nI 99 := rfl
    rw [h9, ← this]
    grind
  unfold gv
  rw [e, d, cl_nI (by omega)]
  by_cases c : bt p k = true
  · rw [if_pos c, if_pos c]
    by_cases c2 : nI (99 - g) < nI v
    · rw [if_pos c2, Nat.min_eq_right (Nat.le_of_lt ((nI_ltI (by omega) (by omega)).1 c2))]
    · rw [if_neg c2, Nat.min_eq_left]
      rcases Nat.lt_or_ge (99 - g) v with h | h
      · exact absurd (nI_lt h (by omega)) c2
      · exact h
  · rw [if_neg c, if_neg c]; rfl
theorem smallF {x : Int32} {F : Nat} (h : ∀ i, F ≤ i → i < 32 → bt x i = false) : ∃ n, n < 2 ^ F ∧ x = nI n := by
  refine ⟨x.toBitVec.toNat, ?_, ?_⟩
  · refine Nat.lt_pow_two_of_testBit (n := F) _ (fun i hi => ?_)
    rcases Nat.lt_or_ge i 32 with h1 | h1
    · exact h i hi h1
    · exact BitVec.getLsbD_of_ge x.toBitVec i h1
  · apply Int32.toBitVec_inj.mp
    show x.toBitVec = BitVec.ofNat 32 x.toBitVec.toNat
    rw [BitVec.ofNat_toNat, BitVec.setWidth_eq]
theorem neg_bits : ∀ F, F < 7 → ∀ i, i < 32 → bt (-((1 : Int32) <<< (nI F &&& 31))) i = decide (F ≤ i) := by decide +kernel
theorem pow_nI : ∀ F, F < 13 → ((1 : Int32) <<< (nI F &&& 31)) - 1 = nI (2 ^ F - 1) := by decide +kernel
theorem pow_le : ∀ F, F < 13 → 2 ^ F ≤ 4096 := by decide +kernel
theorem folks_iff {q : Int32} {F : Nat} (hf : F ≤ 6) : (q &&& (-((1 : Int32) <<< (nI F &&& 31)))) = 0 ↔ (0 ≤ q ∧ q ≤ ((1 : Int32) <<< (nI F &&& 31)) - 1) := by
  have p1 := pow_le F (by omega)
  have p0 : 0 < 2 ^ F := Nat.pow_pos (by decide)
  rw [pow_nI F (by omega)]
  constructor
  · intro h
    obtain ⟨n, hn, e⟩ := smallF (x := q) (F := F) (fun i h1 h2 => by
      have := bt_eq0.1 h i h2
      rw [b_and, neg_bits F (by omega) i h2, decide_eq_true h1, Bool.and_true] at this
      exact this)
    rw [e]
    exact ⟨nI_pos' (by omega), nI_le (by omega) (by omega)⟩
  · rintro ⟨h1, h2⟩
    obtain ⟨n, hn, e⟩ := of_in (p := q) (n := 2 ^ F) (by omega) h1 (by
      have : nI (2 ^ F - 1) < nI (2 ^ F) := nI_lt (by omega) (by omega)
      grind)
    subst e
    refine bt_eq0.2 (fun i hi => ?_)
    rw [b_and, neg_bits F (by omega) i hi, bt_nI (by omega)]
    by_cases c : F ≤ i
    · rw [Nat.testBit_lt_two_pow (Nat.lt_of_lt_of_le hn (Nat.pow_le_pow_right (n := 2) (by decide) c))]
      rfl
    · simp [c]
theorem folks_bt {q : Int32} {F : Nat} (hf : F ≤ 6) (h : (q &&& (-((1 : Int32) <<< (nI F &&& 31)))) = 0) {k : Nat} (h1 : F ≤ k) (h2 : k < 32) : bt q k = false := by
  have := bt_eq0.1 h k h2
  rw [b_and, neg_bits F (by omega) k h2, decide_eq_true h1, Bool.and_true] at this
  exact this
theorem s_share (p q n : Int32) (s : ac_m) (i : Inv s) : simX thB (w_X11_share p q n) (w_X12_share p q n) s := by
  obtain ⟨F, hf, hF, hD⟩ := Inv_F i
  have hn := i.1.1.1
  have refBad : 0 ≤ p → p < s 73 0 → (¬ (0 ≤ q ∧ q ≤ ((1 : Int32) <<< (nI F &&& 31)) - 1) ∨ ¬ (0 ≤ n ∧ n ≤ 999)) → w_X12_share p q n (fun _ s2 => thB "java/lang/IllegalArgumentException" (s2 69 0) ∧ Inv s2) (ac_u s 0 16 ((s 0 16) + (1 : Int32))) := by
    intro h1 h2 h
    have e : (ac_u (ac_u s 0 16 (s 0 16 + 1)) 69 0 0) 73 = s 73 := by rw [u_ne (by decide), u_ne (by decide)]
    unfold w_X12_share
    refine m_folk (by rw [e]; exact hn) (fun _ _ => m_if1A (m_bad0 u_eq (m_if0A ?_))) (fun z => (z ⟨h1, by rw [e]; exact h2⟩).elim)
    rw [show (ac_u (ac_u s 0 16 (s 0 16 + 1)) 69 0 0) 73 (0 : Int32).toNatClampNeg = nI F by rw [e]; exact hF]
    refine m_inB (fun a b => m_inA (fun a2 b2 => ?_) (fun _ => ?_)) (fun _ => ?_)
    · exact (h.elim (fun z => z ⟨a, b⟩) (fun z => z ⟨a2, b2⟩)).elim
    · exact m_bad1 u_eq (by decide) in2_1 (m_if1B ⟨.inr ⟨rfl, bad_69⟩, Inv_bad1 i⟩)
    · exact m_bad1 u_eq (by decide) in2_1 (m_if1B ⟨.inr ⟨rfl, bad_69⟩, Inv_bad1 i⟩)
  unfold simX w_X11_share w_X11_needFolk
  refine c_number (fun h1 h2 => c_within (fun h3 h4 => ?_) (fun z => ?_)) (fun z => ?_)
  · rw [hD] at h2 ⊢
    have fi := folks_iff (q := q) hf
    refine ⟨fun z => ?_, fun z => ?_⟩
    · unfold w_X11_need
      exact ⟨fun z => absurd rfl z, fun _ => refBad h1 (by rw [hF]; exact h2) (.inl (fun e => z (fi.2 e)))⟩
    · unfold w_X11_need
      refine ⟨fun _ => ?_, fun z => absurd z (by decide)⟩
      obtain ⟨f, hfF, ef⟩ := of_in (by omega) h1 h2
      subst ef
      have i0 := Inv_0 i
      have e556 : (ac_u s 69 0 0) 556 = s 556 := u_ne (by decide)
      have e73 : (ac_u s 69 0 0) 73 = s 73 := u_ne (by decide)
      obtain ⟨b, hb, b1, b2⟩ := cut1 (p := fun j => n < sm (gv (s 556) q (nI j)) F) 99
      have gN : ∀ j, j ≤ 99 → sm (gv (s 556) q (nI j)) F = nI (ns (fun k => if bt q k = true then min j (99 - (s 556 (39 + k)).toNatClampNeg) else 0) F) := fun j hj => sm_ns (fun k hk => gv_nI i (by omega) hj)
      have up : ∀ j, b < j → j ≤ 99 → n < sm (gv (s 556) q (nI j)) F := by
        intro j j1 j2
        have h0 := b2 (by omega)
        have bd : ∀ j, ns (fun k => if bt q k = true then min j (99 - (s 556 (39 + k)).toNatClampNeg) else 0) F ≤ F * 99 := fun j => ns_bd (fun k hk => by by_cases c : bt q k = true <;> simp [c] <;> omega)
        have le := ns_le (n := F) (m := fun k => if bt q k = true then min (b + 1) (99 - (s 556 (39 + k)).toNatClampNeg) else 0) (m' := fun k => if bt q k = true then min j (99 - (s 556 (39 + k)).toNatClampNeg) else 0) (fun k hk => by by_cases c : bt q k = true <;> simp [c] <;> omega)
        rw [gN _ (by omega)] at h0 ⊢
        have l2 := nI_le le (by have := bd j; omega)
        grind
      have g6 : ∀ v, sm (gv (s 556) q v) 6 = sm (gv (s 556) q v) F := fun v => sm_more hf (fun k k1 k2 => by unfold gv; rw [if_neg (by rw [folks_bt hf z k1 (by omega)]; decide)])
      have sf := and_bit (x := q) (j := f) (by omega)
      have sh := shr_bit (x := q) (j := f) (by omega)
      have f39 : (39 : Int32) + nI f = nI (39 + f) := nI_add 39 f
      have g39 := cl_nI (n := 39 + f) (by omega)
      have h39 : vp_in (nI (39 + f)) 83 := vp_in_nI (by omega) (by omega)
      have refGood : ∀ r, r = gv (s 556) q (nI b) f → w_X12_share (nI f) q n (fun b s2 => r = b ∧ s2 69 0 = 0 ∧ Inv s2) s := by
        intro r hr
        unfold w_X12_share
        refine m_folk (by rw [e73]; exact hn) (fun _ _ => m_if1A (m_bad0 u_eq (m_if0A ?_))) (fun z => (z ⟨h1, by rw [e73, hF]; exact h2⟩).elim)
        rw [show (ac_u s 69 0 0) 73 (0 : Int32).toNatClampNeg = nI F by rw [e73]; exact hF]
        refine m_inB (fun _ _ => m_inA (fun _ _ => m_bad0 u_eq (m_if0B ?_)) (fun z => absurd ⟨h3, h4⟩ z)) (fun y => absurd (fi.1 z) y)
        have fin : w_X12_has q (nI f) (fun r103 s103 => (r103 = 0 → (r = 0 ∧ s103 69 0 = 0 ∧ Inv s103)) ∧ (¬ r103 = 0 → (w_X12_missing (nI f) (fun r113 s113 => w_X12_less (nI b) r113 (fun r116 s116 => r = r116 ∧ s116 69 0 = 0 ∧ Inv s116) s113) s103))) (ac_u s 69 0 0) := by
          unfold w_X12_has w_X12_missing w_X12_less
          refine ⟨fun z => m_if0B ⟨?_, u_eq, i0⟩, fun z => m_if1B ?_⟩
          · rw [hr]; unfold gv; rw [if_neg (fun e => z (sh.2 e))]
          · unfold gv at hr
            rw [if_pos (sh.1 z)] at hr
            rw [f39, g39, e556]
            refine ⟨h39, fun z => ⟨?_, u_eq, i0⟩, fun z => ⟨?_, u_eq, i0⟩⟩
            · by_cases c : 99 - s 556 (39 + f) < nI b
              · rw [if_pos c] at hr; exact hr
              · rw [if_neg c] at hr; grind
            · rw [if_neg (by grind)] at hr; exact hr
        unfold l_X12_share_75
        intro P hP
        refine loopUp (P := fun k => P (nI k) (ac_u s 69 0 0)) b ?_ ?_
        · refine hP _ _ ⟨fun _ => fin, fun z => m_given (by rw [e73]; exact hF) hf ?_⟩
          have hb2 : b < 99 := by
            rcases Nat.lt_or_ge b 99 with h | h
            · exact h
            · exact absurd (nI_le (a := 99) h (by omega)) z
          rw [e556, nI_1]
          exact ⟨fun _ => fin, fun z => absurd (b2 hb2) z⟩
        · intro k hk ih
          refine hP _ _ ⟨fun z => absurd z (nI_ge (b := 99) (by omega) (by omega)), fun z => m_given (by rw [e73]; exact hF) hf ?_⟩
          rw [e556, nI_1]
          exact ⟨fun z => absurd z (b1 (k + 1) (by omega) (by omega)), fun _ => ih⟩
      refine ⟨fun z => ?_, fun z => ?_⟩
      · have cq : bt q f = true := by cases hc : bt q f with
          | true => rfl
          | false => exact absurd (sf.2 hc) z
        unfold l_X11_share_52
        intro P hP
        refine loopUp (P := fun j => P (nI (99 - j)) s) (99 - b) ?_ ?_
        · rw [show 99 - (99 - b) = b by omega]
          refine hP _ _ ⟨fun y => refGood _ ?_, fun y => c_given i ?_⟩
          · have b0 : b = 0 := by
              rcases Nat.eq_zero_or_pos b with h | h
              · exact h
              · exact absurd y (nI_nle h (by omega))
            subst b0
            rw [gv_nI i (by omega) (by omega), if_pos cq, Nat.zero_min]; rfl
          · have bp : 1 ≤ b := by
              rcases Nat.eq_zero_or_pos b with h | h
              · subst h; exact absurd (by decide) y
              · exact h
            rw [g6]
            refine ⟨fun x => absurd x (b1 b bp (Nat.le_refl b)), fun x => c_given i (refGood _ ?_)⟩
            rw [sm_one (k := f) (by omega) (fun j hj => ?_)]
            · unfold gv
              rw [if_pos cq, bt_bit (by omega) (by omega), decide_eq_true rfl, if_pos rfl]
            · unfold gv
              rcases Nat.lt_or_ge j 32 with h | h
              · rw [bt_bit (by omega) h, decide_eq_false hj, if_neg (by decide)]
              · rw [b_big h, if_neg (by decide)]
        · intro k hk ih
          refine hP _ _ ⟨fun y => absurd y (nI_nle (by omega) (by omega)), fun y => c_given i ?_⟩
          rw [g6]
          refine ⟨fun x => ?_, fun x => absurd (up (99 - k) (by omega) (by omega)) x⟩
          rw [nI_m1 (by omega), show 99 - k - 1 = 99 - (k + 1) by omega]
          exact ih
      · refine refGood _ ?_
        unfold gv
        rw [if_neg (by rw [sf.1 z]; decide)]
  · rw [hD] at h2
    exact refBad h1 (by rw [hF]; exact h2) (.inr z)
  · rw [hD, ← hF] at z
    have e : (ac_u (ac_u s 0 15 (s 0 15 + 1)) 69 0 0) 73 = s 73 := by rw [u_ne (by decide), u_ne (by decide)]
    unfold w_X12_share
    exact m_folk (by rw [e]; exact hn) (fun a b => (z ⟨a, by rw [e] at b; exact b⟩).elim) (fun _ => m_if0A (m_bad1 u_eq (by decide) in2_0 (m_if1A ⟨.inl ⟨rfl, bad_69⟩, Inv_bad0 i⟩)))
