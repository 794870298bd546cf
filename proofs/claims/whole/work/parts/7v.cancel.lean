/-! CANCEL -/
theorem sm_sub {f : Nat → Int32} {a b : Nat → Nat} : ∀ {n : Nat}, (∀ k, k < n → f k = nI (a k) - nI (b k)) → sm f n = nI (ns a n) - nI (ns b n)
  | 0, _ => by show (0 : Int32) = nI 0 - nI 0; decide
  | n + 1, h => by
    rw [sm, ns, ns, sm_sub (n := n) (fun k hk => h k (by omega)), h n (by omega), ← nI_add, ← nI_add]
    grind
theorem nI_sub0 {a b : Nat} (ha : a < 2147483648) (hb : b < 2147483648) : nI a - nI b = 0 ↔ a = b := by
  rw [← nI_eq (by omega) (by omega)]
  constructor
  · intro h; grind
  · intro h; rw [h]; grind
def ct (b : Nat → Bool) (D : Nat → Nat) (f k : Nat) : Nat := if b k = true ∧ D k = f then 1 else 0
def pw (b : Nat → Bool) (D : Nat → Nat) (k : Nat) : Nat := if b k = true then 25 ^ D k else 0
theorem ct_no {b : Nat → Bool} {D : Nat → Nat} {f k : Nat} (h : b k = false) : ct b D f k = 0 := by unfold ct; rw [if_neg (fun z => by rw [h] at z; cases z.1)]
theorem ct_yes {b : Nat → Bool} {D : Nat → Nat} {f k : Nat} (h : b k = true) : ct b D f k = if D k = f then 1 else 0 := by
  unfold ct
  by_cases c : D k = f
  · rw [if_pos ⟨h, c⟩, if_pos c]
  · rw [if_neg (fun y => c y.2), if_neg c]
theorem pw_ct {b : Nat → Bool} {D : Nat → Nat} : ∀ {n : Nat}, (∀ k, k < n → D k < 6) → ns (pw b D) n = ns (ct b D 0) n + 25 * ns (ct b D 1) n + 625 * ns (ct b D 2) n + 15625 * ns (ct b D 3) n + 390625 * ns (ct b D 4) n + 9765625 * ns (ct b D 5) n
  | 0, _ => rfl
  | n + 1, h => by
    have ih := pw_ct (b := b) (D := D) (n := n) (fun k hk => h k (by omega))
    have hd := h n (by omega)
    have st : pw b D n = ct b D 0 n + 25 * ct b D 1 n + 625 * ct b D 2 n + 15625 * ct b D 3 n + 390625 * ct b D 4 n + 9765625 * ct b D 5 n := by
      unfold pw ct
      cases c : b n
      · simp
      · have : D n = 0 ∨ D n = 1 ∨ D n = 2 ∨ D n = 3 ∨ D n = 4 ∨ D n = 5 := by omega
        rcases this with e | e | e | e | e | e <;> simp [e]
    simp only [ns]
    rw [ih, st]
    omega
theorem ct_bd {b : Nat → Bool} {D : Nat → Nat} {f n : Nat} : ns (ct b D f) n ≤ n := by
  have := ns_bd (m := ct b D f) (c := 1) (n := n) (fun k _ => by unfold ct; split <;> omega)
  omega
theorem pw_eq {b : Nat → Bool} {D R : Nat → Nat} (hD : ∀ k, k < 12 → D k < 6) (hR : ∀ k, k < 12 → R k < 6) : ns (pw b D) 12 = ns (pw b R) 12 ↔ ∀ f, f < 6 → ns (ct b D f) 12 = ns (ct b R f) 12 := by
  rw [pw_ct hD, pw_ct hR]
  have d0 := ct_bd (b := b) (D := D) (f := 0) (n := 12)
  have d1 := ct_bd (b := b) (D := D) (f := 1) (n := 12)
  have d2 := ct_bd (b := b) (D := D) (f := 2) (n := 12)
  have d3 := ct_bd (b := b) (D := D) (f := 3) (n := 12)
  have d4 := ct_bd (b := b) (D := D) (f := 4) (n := 12)
  have d5 := ct_bd (b := b) (D := D) (f := 5) (n := 12)
  have r0 := ct_bd (b := b) (D := R) (f := 0) (n := 12)
  have r1 := ct_bd (b := b) (D := R) (f := 1) (n := 12)
  have r2 := ct_bd (b := b) (D := R) (f := 2) (n := 12)
  have r3 := ct_bd (b := b) (D := R) (f := 3) (n := 12)
  have r4 := ct_bd (b := b) (D := R) (f := 4) (n := 12)
  have r5 := ct_bd (b := b) (D := R) (f := 5) (n := 12)
  constructor
  · intro h f hf
    have : f = 0 ∨ f = 1 ∨ f = 2 ∨ f = 3 ∨ f = 4 ∨ f = 5 := by omega
    rcases this with e | e | e | e | e | e <;> subst e <;> omega
  · intro h
    rw [h 0 (by omega), h 1 (by omega), h 2 (by omega), h 3 (by omega), h 4 (by omega), h 5 (by omega)]
theorem ns_more {f : Nat → Nat} {m : Nat} : ∀ {n : Nat}, m ≤ n → (∀ k, m ≤ k → k < n → f k = 0) → ns f n = ns f m
  | 0, h, _ => by rw [show m = 0 by omega]
  | n + 1, h, hf => by
    by_cases e : m = n + 1
    · rw [e]
    · rw [ns, hf n (by omega) (by omega), ns_more (n := n) (by omega) (fun k a b => hf k a (by omega)), Nat.add_zero]
theorem pow25 : ∀ k, k < 6 → 25 ^ k ≤ 9765625 := by decide +kernel
theorem c_digit {d : Nat} {Q : Int32 → ac_m → Prop} {s : ac_m} (hd : d < 6) (h : Q (nI (25 ^ d)) s) : w_X2_digitOf (nI d) Q s := by
  unfold w_X2_digitOf l_X2_digitOf_4
  intro P hP
  refine loopUp (P := fun k => P (nI (25 ^ k)) (nI k) s) d ?_ ?_
  · exact hP _ _ _ ⟨fun _ => h, fun z => absurd (Int32.le_refl _) z⟩
  · intro k hk ih
    refine hP _ _ _ ⟨fun z => absurd z (nI_ge hk (by omega)), fun _ => ⟨fun z => absurd z (nI_ge (b := 6) (by omega) (by omega)), fun _ => ?_⟩⟩
    rw [show (25 : Int32) = nI 25 from rfl, nI_mul, nI_1, ← Nat.pow_succ]
    exact ih
/-- who did, and for whom -/
def dD (s : ac_m) (k : Nat) : Nat := (s 6 k).toNatClampNeg
def dR (s : ac_m) (k : Nat) : Nat := (s 7 k).toNatClampNeg
theorem dD_ok {s : ac_m} (i : Inv s) {k : Nat} (hk : k < 12) : dD s k < 6 ∧ s 6 k = nI (dD s k) ∧ dR s k < 6 ∧ s 7 k = nI (dR s k) := by
  obtain ⟨B, hb, hB, hC⟩ := Inv_B i
  obtain ⟨F, hf, hF, hD⟩ := Inv_F i
  unfold dD dR
  rcases Nat.lt_or_ge k B with h | h
  · have g := Inv_b i hB hb h
    rw [hF] at g
    obtain ⟨d, h2, e2⟩ := of_in (by omega) g.2.2.2.2.1 g.2.2.2.2.2.1
    obtain ⟨e, h3, e3⟩ := of_in (by omega) g.2.2.2.2.2.2.1 g.2.2.2.2.2.2.2.1
    rw [e2, e3, cl_nI (by omega), cl_nI (by omega)]
    exact ⟨by omega, rfl, by omega, rfl⟩
  · have g := (i.1.2.2.2.1 k (by omega)).2 (by rw [hB]; exact nI_le h (by omega))
    rw [g.1, g.2.1]
    exact ⟨by decide, rfl, by decide, rfl⟩
def evn (s : ac_m) (n : Nat) : Prop := ∀ f, f < 6 → ns (ct (fun k => bt (nI n) k) (dD s) f) 12 = ns (ct (fun k => bt (nI n) k) (dR s) f) 12
theorem Sg_evn {s : ac_m} (i : Inv s) (n : Nat) : Sg (fun k => nI (25 ^ dD s k) - nI (25 ^ dR s k)) n = 0 ↔ evn s n := by
  have e : Sg (fun k => nI (25 ^ dD s k) - nI (25 ^ dR s k)) n = nI (ns (pw (fun k => bt (nI n) k) (dD s)) 12) - nI (ns (pw (fun k => bt (nI n) k) (dR s)) 12) := by
    unfold Sg
    refine sm_sub (fun k hk => ?_)
    show (if bt (nI n) k = true then nI (25 ^ dD s k) - nI (25 ^ dR s k) else 0) = nI (if bt (nI n) k = true then 25 ^ dD s k else 0) - nI (if bt (nI n) k = true then 25 ^ dR s k else 0)
    by_cases c : bt (nI n) k = true
    · rw [if_pos c, if_pos c, if_pos c]
    · rw [if_neg c, if_neg c, if_neg c]; decide
  have bd : ∀ D : Nat → Nat, (∀ k, k < 12 → D k < 6) → ns (pw (fun k => bt (nI n) k) D) 12 < 2147483648 := by
    intro D hD
    have := ns_bd (m := pw (fun k => bt (nI n) k) D) (c := 9765625) (n := 12) (fun k hk => by unfold pw; split; exact pow25 _ (hD k hk); omega)
    omega
  rw [e, nI_sub0 (bd _ (fun k hk => (dD_ok i hk).1)) (bd _ (fun k hk => (dD_ok i hk).2.2.1)), pw_eq (fun k hk => (dD_ok i hk).1) (fun k hk => (dD_ok i hk).2.2.1)]
  rfl
theorem m_isEven {B n : Nat} {Q : Int32 → ac_m → Prop} {s : ac_m} (i : Inv s) (hB : s 73 1 = nI B) (hb : B ≤ 12) (hn : n < 2 ^ B) (h1 : evn s n → ∀ s', (∀ y, y ≠ 580 → s' y = s y) → Q 1 s') (h0 : ¬ evn s n → ∀ s', (∀ y, y ≠ 580 → s' y = s y) → Q 0 s') : w_X12_isEven (nI n) Q s := by
  have n12 : n < 4096 := Nat.lt_of_lt_of_le hn (pow_le B (by omega))
  have hi : ∀ k, B ≤ k → bt (nI n) k = false := fun k hk => by
    rw [bt_nI (by omega)]
    exact Nat.testBit_lt_two_pow (Nat.lt_of_lt_of_le hn (Nat.pow_le_pow_right (n := 2) (by decide) hk))
  have ev : evn s n ↔ ∀ f, f < 6 → ns (ct (fun k => bt (nI n) k) (dD s) f) B = ns (ct (fun k => bt (nI n) k) (dR s) f) B := by
    have e : ∀ D f, ns (ct (fun k => bt (nI n) k) D f) 12 = ns (ct (fun k => bt (nI n) k) D f) B := fun D f => ns_more hb (fun k k1 k2 => ct_no (hi k k1))
    unfold evn
    simp only [e]
  unfold w_X12_isEven l_X12_isEven_2
  intro P hP
  refine loopUp (P := fun k => ∀ s', (∀ y, y ≠ 580 → s' y = s y) → (∀ f, f < k → s' 580 f = 0) → P (nI k) s') 6 ?_ ?_ s (fun _ _ => rfl) (fun f hf => absurd hf (Nat.not_lt_zero f))
  rotate_left
  · intro k hk ih s' f g
    refine hP _ _ ⟨fun z => absurd z (nI_ge (b := 6) hk (by omega)), fun _ => ⟨vp_in_nI hk (by omega), ?_⟩⟩
    rw [cl_nI (by omega), nI_1]
    refine ih _ (fun y hy => by rw [u_ne hy]; exact f y hy) (fun j hj => ?_)
    by_cases e : j = k
    · rw [e, u_eq]
    · rw [u_at e]; exact g j (by omega)
  intro s1 f1 g1
  refine hP _ _ ⟨fun _ => ?_, fun z => absurd (by decide) z⟩
  unfold l_X12_isEven_23
  intro P2 hP2
  refine loopUp (P := fun k => ∀ s', (∀ y, y ≠ 580 → s' y = s y) → (∀ f, f < 6 → s' 580 f = nI (ns (ct (fun k => bt (nI n) k) (dD s) f) k) - nI (ns (ct (fun k => bt (nI n) k) (dR s) f) k)) → P2 (nI k) s') B ?_ ?_ s1 f1 (fun f hf => by rw [g1 f hf]; show (0 : Int32) = nI 0 - nI 0; decide)
  rotate_left
  · intro k hk ih s' f g
    have q := Inv_b i hB hb hk
    have ok := dD_ok i (show k < 12 by omega)
    have sb := shr_bit (x := nI n) (j := k) (by omega)
    have v13 : vp_in (nI k) 13 := vp_in_nI (by omega) (by omega)
    refine hP2 _ _ ⟨fun z => absurd z (by rw [f 73 (by omega), show s 73 (1 : Int32).toNatClampNeg = nI B from hB]; exact nI_ge hk (by omega)), fun _ => ?_⟩
    unfold w_X12_has
    refine ⟨fun z => m_if0A ?_, fun z => m_if1A ?_⟩
    · rw [nI_1]
      refine ih s' f (fun e he => ?_)
      have nb : bt (nI n) k = false := by cases c : bt (nI n) k; rfl; exact absurd (sb.2 c) z
      rw [g e he, ns, ns, ct_no nb, ct_no nb, Nat.add_zero, Nat.add_zero]
    · have yb := sb.1 z
      have e0 : s' (102 + k) (0 : Int32).toNatClampNeg = nI (dD s k) := by rw [f _ (by omega)]; exact q.1.symm.trans ok.2.1
      have e1 : s' (102 + k) (1 : Int32).toNatClampNeg = nI (dR s k) := by rw [f _ (by omega)]; exact q.2.1.symm.trans ok.2.2.2
      have n5 : (102 + k) ≠ 580 := by omega
      have vd : vp_in (nI (dD s k)) 6 := vp_in_nI ok.1 (by omega)
      have vr : vp_in (nI (dR s k)) 6 := vp_in_nI ok.2.2.1 (by omega)
      rw [cl_nI (n := k) (by omega), e0, u_ne n5, e1, cl_nI (n := dD s k) (by omega), cl_nI (n := dR s k) (by omega), nI_1]
      refine ⟨v13, vd, vd, v13, vr, vr, ih _ (fun y hy => by rw [u_ne hy, u_ne hy]; exact f y hy) (fun e he => ?_)⟩
      have g' := g e he
      have cd : ∀ D : Nat → Nat, ct (fun k => bt (nI n) k) D e k = if D k = e then 1 else 0 := fun D => ct_yes yb
      rw [ns, ns, cd, cd, ← nI_add, ← nI_add]
      by_cases c1 : dR s k = e
      · rw [if_pos c1, ← c1, u_eq]
        by_cases c2 : dD s k = dR s k
        · rw [c2, u_eq, if_pos rfl, c1, g', show nI 1 = (1 : Int32) from rfl]; grind
        · rw [u_at (fun y => c2 y.symm), if_neg c2, c1, g', show nI 1 = (1 : Int32) from rfl, show nI 0 = (0 : Int32) from rfl]; grind
      · rw [if_neg c1, u_at (fun y => c1 y.symm)]
        by_cases c2 : dD s k = e
        · rw [if_pos c2, ← c2, u_eq, c2, g', show nI 1 = (1 : Int32) from rfl, show nI 0 = (0 : Int32) from rfl]; grind
        · rw [if_neg c2, u_at (fun y => c2 y.symm), g', show nI 0 = (0 : Int32) from rfl]; grind
  intro s2 f2 g2
  refine hP2 _ _ ⟨fun _ => ?_, fun z => absurd (by rw [f2 73 (by omega), show s 73 (1 : Int32).toNatClampNeg = nI B from hB]; exact Int32.le_refl _) z⟩
  have z2 : ∀ f, f < 6 → (s2 580 f = 0 ↔ ns (ct (fun k => bt (nI n) k) (dD s) f) B = ns (ct (fun k => bt (nI n) k) (dR s) f) B) := fun f hf => by
    have b1 := ct_bd (b := fun k => bt (nI n) k) (D := dD s) (f := f) (n := B)
    have b2 := ct_bd (b := fun k => bt (nI n) k) (D := dR s) (f := f) (n := B)
    rw [g2 f hf, nI_sub0 (by omega) (by omega)]
  obtain ⟨b, hb6, b1, b2⟩ := cut0 (p := fun f => ¬ s2 580 f = 0) 6
  unfold l_X12_isEven_86
  intro P3 hP3
  refine loopUp (P := fun k => P3 (nI k) s2) b ?_ ?_
  · rcases Nat.lt_or_ge b 6 with h | h
    · refine hP3 _ _ ⟨fun z => absurd z (nI_ge (b := 6) h (by omega)), fun _ => ⟨vp_in_nI h (by omega), ?_⟩⟩
      rw [cl_nI (by omega)]
      exact ⟨fun z => absurd z (b2 h), fun _ => h0 (fun e => b2 h ((z2 b h).2 (ev.1 e b h))) s2 f2⟩
    · have : b = 6 := by omega
      subst this
      exact hP3 _ _ ⟨fun _ => h1 (ev.2 (fun f hf => (z2 f hf).1 (Decidable.not_not.mp (b1 f hf)))) s2 f2, fun z => absurd (by decide) z⟩
  · intro k hk ih
    refine hP3 _ _ ⟨fun z => absurd z (nI_ge (b := 6) (by omega) (by omega)), fun _ => ⟨vp_in_nI (by omega) (by omega), ?_⟩⟩
    rw [cl_nI (by omega), nI_1]
    exact ⟨fun _ => ih, fun z => absurd z (b1 k hk)⟩
theorem kp_580 {s s' : ac_m} (f : ∀ y, y ≠ 580 → s' y = s y) : kp s s' := ⟨fun a ha => f a (fun e => by subst e; cases ha), fun k _ => by rw [f 69 (by omega)]⟩
theorem kp_63 {s s' : ac_m} (f : ∀ y, y ≠ 63 → y ≠ 64 → s' y = s y) : kp s s' := ⟨fun a ha => f a (fun e => by subst e; cases ha) (fun e => by subst e; cases ha), fun k _ => by rw [f 69 (by omega) (by omega)]⟩
noncomputable def cC (s : ac_m) (n : Nat) : Bool := @decide (sub (bs (fun k => decide (0 < s 556 k)) 13) n ∧ evn s n) (Classical.propDecidable _)
theorem cC_t {s : ac_m} {n : Nat} (h : sub (bs (fun k => decide (0 < s 556 k)) 13) n ∧ evn s n) : cC s n = true := @decide_eq_true _ (Classical.propDecidable _) h
theorem cC_f {s : ac_m} {n : Nat} (h : ¬ (sub (bs (fun k => decide (0 < s 556 k)) 13) n ∧ evn s n)) : cC s n = false := @decide_eq_false _ (Classical.propDecidable _) h
theorem evn_kp {s s' : ac_m} (k : kp s s') (n : Nat) : evn s' n ↔ evn s n := by
  unfold evn dD dR
  rw [k.1 6 rfl, k.1 7 rfl]
theorem s_cancel (s : ac_m) (i : Inv s) : sim0 w_X11_cancel w_X12_cancel s := by
  obtain ⟨B, hb, hB, hC⟩ := Inv_B i
  have p4 := pow_le B (by omega)
  have p0 : 0 < 2 ^ B := Nat.pow_pos (by decide)
  have hl : ∀ n, 2 ^ B - 1 < n → n ≤ 4095 → cC s n = false := fun n h1 h2 => cC_f (fun z => sub_hi i hB hb (fun _ _ w => w) h1 (by omega) z.1)
  have fin : ∀ s2, kp s s2 → w_X12_cancel (fun b s3 => nI (bq (cC s) (fun j k => decide (on (nI j) < on (nI k))) 4095) = b ∧ s3 69 0 = 0 ∧ Inv s3) s2 := by
    intro s2 k2
    unfold w_X12_cancel
    refine m_there ?_
    rw [u_ne (by omega), k2.1 556 rfl]
    unfold l_X12_cancel_17
    intro P hP
    have every : ∀ s' (Q : Int32 → ac_m → Prop), kp s s' → Q (nI (2 ^ B - 1)) s' → w_X12_everyBeast Q s' := by
      intro s' Q k' h
      unfold w_X12_everyBeast
      rw [k'.1 73 rfl, show s 73 (1 : Int32).toNatClampNeg = nI B from hB, pow_nI B (by omega)]
      exact h
    refine loopUp (P := fun n => ∀ s', kp s s' → s' 69 0 = 0 → P (nI (bq (cC s) (fun j k => decide (on (nI j) < on (nI k))) n)) (nI (n + 1)) s') (2 ^ B - 1) ?_ ?_ _ (k2.trans kp_0) u_eq
    · intro s3 k3 t3
      refine hP _ _ _ (every _ _ k3 ⟨fun _ => ⟨?_, t3, Inv_kp k3 i⟩, fun z => absurd (nI_lt (by omega) (by omega)) z⟩)
      rw [bq_more (m := 2 ^ B - 1) (n := 4095) (by omega) hl]
    · intro n hn ih s3 k3 t3
      have i3 := Inv_kp k3 i
      refine hP _ _ _ (every _ _ k3 ⟨fun z => absurd z (nI_nlt (by omega) (by omega)), fun _ => ?_⟩)
      rw [nI_1]
      refine ⟨fun z => ?_, fun z => m_on (m_on ⟨fun y => ?_, fun y => m_isEven i3 (by rw [k3.1 73 rfl]; exact hB) hb (by omega) (fun ev s4 f4 => m_if1B ?_) (fun ev s4 f4 => m_if0B ?_)⟩)⟩
      · have := ih s3 k3 t3
        rw [bq, cC_f (fun w => z w.1), Bool.false_and, if_neg (by decide)] at this
        exact this
      · have := ih s3 k3 t3
        rw [bq, decide_eq_false (by grind), Bool.and_false, if_neg (by decide)] at this
        exact this
      · have := ih s4 (k3.trans (kp_580 f4)) (by rw [f4 69 (by omega)]; exact t3)
        rw [bq, cC_t ⟨z, (evn_kp k3 _).1 ev⟩, decide_eq_true (by grind), Bool.and_true, if_pos rfl] at this
        exact this
      · have := ih s4 (k3.trans (kp_580 f4)) (by rw [f4 69 (by omega)]; exact t3)
        rw [bq, cC_f (fun w => ev ((evn_kp k3 _).2 w.2)), Bool.false_and, if_neg (by decide)] at this
        exact this
  unfold sim0 w_X11_cancel w_X2_mostCancelling
  refine c_there ?_
  rw [there_eq i]
  unfold l_X2_mostCancelling_10
  intro P hP
  refine loopUp (P := fun k => ∀ s', (∀ y, y ≠ 63 → s' y = s y) → (∀ j, j < k → s' 63 j = nI (25 ^ dD s j) - nI (25 ^ dR s j)) → P (nI k) s') 12 ?_ ?_ s (fun _ _ => rfl) (fun j hj => absurd hj (Nat.not_lt_zero j))
  · intro s1 f1 g1
    refine hP _ _ ⟨fun _ => c_sumParts g1 (fun s2 f2 g2 => ?_), fun z => absurd (by decide) z⟩
    have k2 : kp s s2 := kp_63 (fun y y1 y2 => by rw [f2 y y2, f1 y y1])
    unfold l_X2_mostCancelling_62
    intro P2 hP2
    refine loopUp (P := fun n => P2 (nI (bq (cC s) (fun j k => decide (on (nI j) < on (nI k))) n)) (nI (n + 1)) s2) 4095 ?_ ?_
    · exact hP2 _ _ _ ⟨fun _ => fin s2 k2, fun z => absurd (by decide) z⟩
    · intro n hn ih
      obtain ⟨l1, -⟩ := bq_le (c := cC s) (lt := fun j k => decide (on (nI j) < on (nI k))) n
      refine hP2 _ _ _ ⟨fun z => absurd z (nI_ge (b := 4096) (by omega) (by omega)), fun _ => ?_⟩
      rw [nI_1, cl_nI (by omega)]
      refine ⟨fun z => ?_, fun z => ⟨vp_in_nI (by omega) (by omega), ?_⟩⟩
      · rw [bq, cC_f (fun w => z w.1), Bool.false_and, if_neg (by decide)] at ih
        exact ih
      · rw [g2 (n + 1) (by omega) z]
        refine ⟨fun y => ?_, fun y => c_bc (by omega) (c_bc (by omega) ⟨fun x => ?_, fun x => ?_⟩)⟩
        · rw [bq, cC_f (fun w => y ((Sg_evn i _).2 w.2)), Bool.false_and, if_neg (by decide)] at ih
          exact ih
        · rw [bq, decide_eq_false (by grind), Bool.and_false, if_neg (by decide)] at ih
          exact ih
        · rw [bq, cC_t ⟨z, (Sg_evn i _).1 y⟩, decide_eq_true (by grind), Bool.and_true, if_pos rfl] at ih
          exact ih
  · intro k hk ih s1 f1 g1
    have ok := dD_ok i hk
    have v13 : vp_in (nI k) 13 := vp_in_nI (by omega) (by omega)
    refine hP _ _ ⟨fun z => absurd z (nI_ge (b := 12) hk (by omega)), fun _ => ⟨v13, ?_⟩⟩
    rw [cl_nI (by omega), f1 6 (by omega), ok.2.1]
    refine c_digit ok.1 ⟨v13, ?_⟩
    rw [f1 7 (by omega), ok.2.2.2]
    refine c_digit ok.2.2.1 ⟨vp_in_nI hk (by omega), ?_⟩
    rw [nI_1]
    refine ih _ (fun y hy => by rw [u_ne hy]; exact f1 y hy) (fun j hj => ?_)
    by_cases e : j = k
    · rw [e, u_eq]
    · rw [u_at e]; exact g1 j (by omega)
