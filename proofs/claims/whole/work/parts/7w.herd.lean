/-! HERD -/
def WW (s : ac_m) (k : Nat) : Nat := (s 556 k).toNatClampNeg
def AA (s : ac_m) (k : Nat) : Nat := (apM s 556 k).toNatClampNeg
def tS (m : Nat → Nat) (n k : Nat) : Nat := if bt (nI n) k = true then m k else 0
def WS (s : ac_m) (n : Nat) : Nat := ns (tS (WW s) n) 12
def AS (s : ac_m) (n : Nat) : Nat := ns (tS (AA s) n) 12
theorem WW_ok {s : ac_m} (i : Inv s) {k : Nat} (hk : k < 13) : WW s k ≤ 30 ∧ s 556 k = nI (WW s k) := by
  have w := Inv_v i hk
  obtain ⟨g, hg, e⟩ := nI_of2 (M := 30) (n := 30) rfl (show ¬ s 556 k < 0 by grind) (show s 556 k ≤ 30 by grind)
  unfold WW
  rw [e, cl_nI (by omega)]
  exact ⟨hg, rfl⟩
theorem apM_bd (s : ac_m) (r b : Nat) : 0 ≤ apM s r b ∧ apM s r b ≤ 20 := by
  unfold apM
  by_cases c : s r b ≤ 0
  · rw [if_pos c]; exact ⟨by decide, by decide⟩
  · rw [if_neg c]; exact lval_le _ _
theorem AA_ok {s : ac_m} {k : Nat} : AA s k ≤ 20 ∧ apM s 556 k = nI (AA s k) := by
  have w := apM_bd s 556 k
  obtain ⟨g, hg, e⟩ := nI_of2 (M := 20) (n := 20) rfl (show ¬ apM s 556 k < 0 by grind) w.2
  unfold AA
  rw [e, cl_nI (by omega)]
  exact ⟨hg, rfl⟩
theorem tS_bd {m : Nat → Nat} {n c : Nat} (h : ∀ k, k < 12 → m k ≤ c) : ns (tS m n) 12 ≤ 12 * c := ns_bd (fun k hk => by unfold tS; split; exact h k hk; omega)
theorem sm_tS {f : Nat → Int32} {m : Nat → Nat} {n B : Nat} (h : ∀ k, k < B → f k = nI (m k)) : sm (fun k => if bt (nI n) k = true then f k else 0) B = nI (ns (tS m n) B) := by
  refine sm_ns (fun k hk => ?_)
  unfold tS
  by_cases c : bt (nI n) k = true
  · rw [if_pos c, if_pos c, h k hk]
  · rw [if_neg c, if_neg c]; rfl
theorem bt_hi {n B k : Nat} (hn : n < 2 ^ B) (hb : B ≤ 12) (hk : B ≤ k) : bt (nI n) k = false := by
  have := pow_le B (by omega)
  rw [bt_nI (by omega)]
  exact Nat.testBit_lt_two_pow (Nat.lt_of_lt_of_le hn (Nat.pow_le_pow_right (n := 2) (by decide) hk))
theorem tS_B {m : Nat → Nat} {n B : Nat} (hn : n < 2 ^ B) (hb : B ≤ 12) : ns (tS m n) 12 = ns (tS m n) B := ns_more hb (fun k k1 k2 => by unfold tS; rw [bt_hi hn hb k1, if_neg (by decide)])
theorem ns_lin {a b : Nat → Nat} {c : Nat} : ∀ {n : Nat}, ns (fun k => c * a k + b k) n = c * ns a n + ns b n
  | 0 => by rw [ns, ns, ns, Nat.mul_zero]
  | n + 1 => by rw [ns, ns, ns, ns_lin (n := n), Nat.mul_add]; omega
theorem Sg_herd {s : ac_m} (n : Nat) : Sg (fun k => nI (1024 * WW s k + AA s k)) n = nI (1024 * WS s n + AS s n) := by
  unfold Sg WS AS
  rw [sm_tS (m := fun k => 1024 * WW s k + AA s k) (fun k _ => rfl), ← ns_lin]
  congr 1
  have : tS (fun k => 1024 * WW s k + AA s k) n = fun k => 1024 * tS (WW s) n k + tS (AA s) n k := by
    funext k
    unfold tS
    split <;> rfl
  rw [this]
theorem WS_bd {s : ac_m} (i : Inv s) (n : Nat) : WS s n ≤ 360 := by have := tS_bd (m := WW s) (n := n) (c := 30) (fun k hk => (WW_ok i (by omega)).1); unfold WS; omega
theorem AS_bd {s : ac_m} (n : Nat) : AS s n ≤ 240 := by have := tS_bd (m := AA s) (n := n) (c := 20) (fun k hk => AA_ok.1); unfold AS; omega
def ltH (s : ac_m) (j k : Nat) : Bool := decide (WS s j < WS s k ∨ (WS s j = WS s k ∧ on (nI k) < on (nI j)))
noncomputable def cH (s : ac_m) (g n : Nat) : Bool := @decide (sub (bs (fun k => decide (0 < s 556 k)) 13) n ∧ AS s n ≤ g) (Classical.propDecidable _)
theorem cH_t {s : ac_m} {g n : Nat} (h : sub (bs (fun k => decide (0 < s 556 k)) 13) n ∧ AS s n ≤ g) : cH s g n = true := @decide_eq_true _ (Classical.propDecidable _) h
theorem cH_f {s : ac_m} {g n : Nat} (h : ¬ (sub (bs (fun k => decide (0 < s 556 k)) 13) n ∧ AS s n ≤ g)) : cH s g n = false := @decide_eq_false _ (Classical.propDecidable _) h
theorem nI_sp {a b : Nat} (ha : a ≤ 1000) (hb : b ≤ 1000) : (0 < nI a - nI b ↔ b < a) ∧ (nI a - nI b = 0 ↔ a = b) := by
  refine ⟨?_, nI_sub0 (by omega) (by omega)⟩
  rw [← nI_ltI (a := b) (b := a) (by omega) (by omega)]
  have a1 := nI_pos' (n := a) (by omega)
  have b1 := nI_pos' (n := b) (by omega)
  have a2 : nI a ≤ 1000 := nI_le (b := 1000) ha (by omega)
  have b2 : nI b ≤ 1000 := nI_le (b := 1000) hb (by omega)
  generalize nI a = x at *
  generalize nI b = y at *
  constructor <;> intro h <;> grind
theorem c_better {n j a b a' b' : Nat} {Q : Int32 → ac_m → Prop} {s : ac_m} (hn : n < 4096) (hj : j < 4096) (ha : a ≤ 1000) (ha' : a' ≤ 1000) (hb : b < 1024) (hb' : b' < 1024) (e1 : s 64 n = nI (1024 * a + b)) (e2 : s 64 j = nI (1024 * a' + b'))
    (h1 : (a' < a ∨ (a' = a ∧ on (nI n) < on (nI j))) → Q 1 s) (h0 : ¬ (a' < a ∨ (a' = a ∧ on (nI n) < on (nI j))) → Q 0 s) : w_X2_isBetter (nI n) (nI j) Q s := by
  have d1 : nI (1024 * a + b) / (1024 : Int32) = nI a := by rw [show (1024 : Int32) = nI 1024 from rfl, nI_div (by omega) (by omega)]; congr 1; omega
  have d2 : nI (1024 * a' + b') / (1024 : Int32) = nI a' := by rw [show (1024 : Int32) = nI 1024 from rfl, nI_div (by omega) (by omega)]; congr 1; omega
  have sp := nI_sp ha ha'
  unfold w_X2_isBetter
  rw [cl_nI (by omega), cl_nI (by omega), e1, e2, d1, d2]
  refine ⟨fun z => absurd z (nI_pos (by omega)), fun _ => ⟨fun z => absurd z (nI_ge (b := 4096) hn (by omega)), fun _ => ⟨fun z => absurd z (nI_pos (by omega)), fun _ => ⟨fun _ => ⟨vp_in_nI hn (by omega), vp_in_nI hj (by omega), fun y hy => ?_⟩, fun z => absurd (nI_lt (b := 4096) hj (by omega)) z⟩⟩⟩⟩
  subst hy
  rw [sp.1, sp.2]
  refine ⟨fun c => h1 (.inl c), fun c => ⟨fun d => h0 (fun z => z.elim c (fun w => d w.1.symm)), fun d => c_bc hn (c_bc hj ⟨fun x => h0 (fun z => ?_), fun x => h1 (.inr ⟨d.symm, ?_⟩)⟩)⟩⟩
  · rcases z with z | z
    · exact c z
    · exact absurd z.2 (by grind)
  · grind
theorem m_eatS {B n : Nat} {Q : Int32 → ac_m → Prop} {s0 s : ac_m} (hB : s 73 1 = nI B) (hb : B ≤ 12) (hn : n < 2 ^ B) (he : ∀ k, k < 13 → s 558 k = apM s0 556 k) (h : Q (nI (AS s0 n)) s) : w_X12_eatenBy (nI n) Q s := by
  have e : AS s0 n = ns (tS (AA s0) n) B := tS_B hn hb
  rw [e, ← sm_tS (f := fun k => s 558 k) (m := AA s0) (fun k hk => (he k (by omega)).trans AA_ok.2)] at h
  unfold w_X12_eatenBy l_X12_eatenBy_4
  intro P hP
  refine loopUp (P := fun k => P (sm (fun k => if bt (nI n) k = true then s 558 k else 0) k) (nI k) s) B ?_ ?_
  · exact hP _ _ _ ⟨fun _ => h, fun hc => absurd (by rw [show (s 73 (1 : Int32).toNatClampNeg) = nI B from hB]; exact Int32.le_refl _) hc⟩
  · intro k hk ih
    have sb := shr_bit (x := nI n) (j := k) (by omega)
    refine hP _ _ _ ⟨fun z => absurd z (by rw [show (s 73 (1 : Int32).toNatClampNeg) = nI B from hB]; exact nI_ge hk (by omega)), fun _ => ?_⟩
    unfold w_X12_has
    rw [sm] at ih
    rw [nI_1]
    refine ⟨fun z => m_if0B ?_, fun z => m_if1B ⟨vp_in_nI (by omega) (by omega), ?_⟩⟩
    · rw [if_neg (fun e => z (sb.2 e))] at ih; exact ih
    · rw [if_pos (sb.1 z)] at ih; rw [cl_nI (by omega)]; exact ih
theorem m_heavyS {B n : Nat} {Q : Int32 → ac_m → Prop} {s0 s : ac_m} (i : Inv s0) (k : kp s0 s) (hB : s0 73 1 = nI B) (hb : B ≤ 12) (hn : n < 2 ^ B) (h : Q (nI (WS s0 n)) s) : w_X12_heavy (nI n) Q s := by
  refine m_heavy (B := B) (by rw [k.1 73 rfl]; exact hB) hb ?_
  have e : WS s0 n = ns (tS (WW s0) n) B := tS_B hn hb
  rw [k.1 556 rfl, sm_tS (f := fun k => s0 556 k) (m := WW s0) (fun k hk => (WW_ok i (by omega)).2), ← e]
  exact h
theorem m_laysE {Q : ac_m → Prop} {s : ac_m} (i : Inv s) (h : ∀ s', kp s s' → s' 69 = s 69 → (∀ k, k < 13 → s' 558 k = apM s 556 k) → Q s') : w_X12_laysEats Q s := by
  unfold w_X12_laysEats l_X12_laysEats_2
  intro P hP
  refine loopUp (P := fun k => ∀ s', (∀ y, y ≠ 473 → y ≠ 474 → y ≠ 558 → s' y = s y) → (∀ j, j < k → s' 558 j = apM s 556 j) → P (nI k) s') 13 ?_ ?_ s (fun _ _ _ _ => rfl) (fun j hj => absurd hj (Nat.not_lt_zero j))
  · intro s' f g
    exact hP _ _ ⟨fun _ => h s' (kp_557 (fun y y1 y2 y3 _ => f y y1 y2 y3)) (f 69 (by omega) (by omega) (by omega)) g, fun z => absurd (by decide) z⟩
  · intro k hk ih s' f g
    have k' : kp s s' := kp_557 (fun y y1 y2 y3 _ => f y y1 y2 y3)
    have i' := Inv_kp k' i
    refine hP _ _ ⟨fun z => absurd z (nI_nlt (a := 12) (by omega) (by omega)), fun _ => m_eatOf i'.2.2.2.2.1 hk (Inv_vR i') (fun s4 f4 => ⟨vp_in_nI hk (by omega), ?_⟩)⟩
    have ea : apM s' 556 k = apM s 556 k := by
      show apX s' (s' 556) k = apX s (s 556) k
      rw [f 556 (by omega) (by omega) (by omega)]
      exact apX_fr (by rw [f 69 (by omega) (by omega) (by omega)]) (fun j hj => f _ (by omega) (by omega) (by omega)) (f _ (by omega) (by omega) (by omega)) i.2.2.2.2.1
    rw [cl_nI (by omega), nI_1, ea]
    refine ih _ (fun y y1 y2 y3 => by rw [u_ne y3, f4 y y1 y2, f y y1 y2 y3]) (fun j hj => ?_)
    by_cases e : j = k
    · rw [e, u_eq]
    · rw [u_at e, f4 558 (by omega) (by omega), g j (by omega)]
theorem e_herd {p q : Int32} {Q : Int32 → ac_m → Prop} {s : ac_m} : w_X12_herd p q Q s = gF2 p q 0 1 (fun Q s44 => w_X12_there 556 (fun r58 s58 => w_X12_laysEats (fun s64 => l_X12_herd_70 p q Q p q r58 0 1 s64) s58) s44) Q s := rfl
theorem s_herd (p q : Int32) (s : ac_m) (i : Inv s) : simX thB (w_X11_herd p q) (w_X12_herd p q) s := by
  obtain ⟨B, hb, hB, hC⟩ := Inv_B i
  obtain ⟨F, hf, hF, hD⟩ := Inv_F i
  have hn := i.1.1.1
  have p4 := pow_le B (by omega)
  have p0 : 0 < 2 ^ B := Nat.pow_pos (by decide)
  unfold simX w_X11_herd
  refine gF2_no (G := w_X12_herd p q) (fun Q s z => by rw [e_herd]; exact z) i (fun h1 h2 h3 h4 => ?_)
  have h2' := h2
  rw [hF] at h2'
  obtain ⟨f, hfF, ef⟩ := of_in (by omega) h1 h2'
  subst ef
  have w := i.2.2.1.2.1 f (by omega)
  obtain ⟨g, hg, eg⟩ := nI_of2 (M := 99) (n := 99) rfl (show ¬ s 556 (39 + f) < 0 by grind) w.2.1
  have f39 : (39 : Int32) + nI f = nI (39 + f) := nI_add 39 f
  have g39 := cl_nI (n := 39 + f) (by omega)
  have w39 : vp_in (nI (39 + f)) 83 := vp_in_nI (by omega) (by omega)
  have hl : ∀ n, 2 ^ B - 1 < n → n ≤ 4095 → cH s g n = false := fun n k1 k2 => cH_f (fun z => sub_hi i hB hb (fun _ _ w => w) k1 (by omega) z.1)
  have bqe := bq_more (lt := ltH s) (m := 2 ^ B - 1) (n := 4095) (by omega) hl
  have ble := (bq_le (c := cH s g) (lt := ltH s) (2 ^ B - 1)).1
  have fin : ∀ s2, kp s s2 → ∀ v, (q = 0 → v = nI (WS s (bq (cH s g) (ltH s) 4095))) → (¬ q = 0 → v = nI (bq (cH s g) (ltH s) 4095)) → w_X12_herd (nI f) q (fun b s3 => v = b ∧ s3 69 0 = 0 ∧ Inv s3) s2 := by
    intro s2 k2 v v0 v1
    rw [e_herd]
    refine gF2_ok (by rw [k2.1 73 rfl]; exact hn) h1 (by rw [k2.1 73 rfl]; exact h2) h3 h4 (m_there (m_laysE (Inv_kp (k2.trans kp_0) i) (fun s3 k3 t3 a3 => ?_)))
    have k03 : kp s s3 := (k2.trans kp_0).trans k3
    have t30 : s3 69 0 = 0 := by rw [t3, u_eq]
    have a3' : ∀ k, k < 13 → s3 558 k = apM s 556 k := fun k hk => by
      rw [a3 k hk]
      by_cases c : k < 12
      · exact apM_kp (k2.trans kp_0) i.2.2.2.2.1 c
      · have : k = 12 := by omega
        subst this
        have z12 := Inv_nb i hB (b := 12) (by omega) (by omega)
        unfold apM
        rw [if_pos (by rw [(k2.trans kp_0).1 556 rfl, z12]; decide), if_pos (by rw [z12]; decide)]
    rw [(k2.trans kp_0).1 556 rfl]
    unfold l_X12_herd_70
    intro P hP
    have every : ∀ (Q : Int32 → ac_m → Prop), Q (nI (2 ^ B - 1)) s3 → w_X12_everyBeast Q s3 := by
      intro Q h
      unfold w_X12_everyBeast
      rw [k03.1 73 rfl, show s 73 (1 : Int32).toNatClampNeg = nI B from hB, pow_nI B (by omega)]
      exact h
    have hB3 : s3 73 1 = nI B := by rw [k03.1 73 rfl]; exact hB
    refine loopUp (P := fun n => P (nI (bq (cH s g) (ltH s) n)) (nI (n + 1)) s3) (2 ^ B - 1) ?_ ?_
    · rw [bqe] at v0 v1
      exact hP _ _ _ (every _ ⟨fun _ => ⟨fun q0 => ⟨v1 q0, t30, Inv_kp k03 i⟩, fun q0 => m_heavyS i k03 hB hb (by omega) ⟨v0 q0, t30, Inv_kp k03 i⟩⟩, fun z => absurd (nI_lt (by omega) (by omega)) z⟩)
    · intro n hn ih
      have bl := (bq_le (c := cH s g) (lt := ltH s) n).1
      refine hP _ _ _ (every _ ⟨fun z => absurd z (nI_nlt (by omega) (by omega)), fun _ => ?_⟩)
      rw [nI_1]
      refine ⟨fun z => ?_, fun z => m_eatS hB3 hb (by omega) a3' ?_⟩
      · rw [bq, cH_f (fun w => z w.1), Bool.false_and, if_neg (by decide)] at ih
        exact ih
      · rw [f39, g39, k03.1 556 rfl, eg, nI_leI (by have := AS_bd (s := s) (n + 1); omega) (by omega)]
        have wb1 := WS_bd i (n + 1)
        have wb2 := WS_bd i (bq (cH s g) (ltH s) n)
        refine ⟨w39, fun a => ?_, fun a => ?_⟩
        · have ct := cH_t ⟨z, a⟩
          refine m_heavyS i k03 hB hb (by omega) (m_heavyS i k03 hB hb (by omega) ?_)
          rw [nI_ltI (by omega) (by omega)]
          refine ⟨fun x => ?_, fun x => m_heavyS i k03 hB hb (by omega) (m_heavyS i k03 hB hb (by omega) ?_)⟩
          · have : ltH s (bq (cH s g) (ltH s) n) (n + 1) = false := decide_eq_false (fun y => by omega)
            rw [bq, this, Bool.and_false, if_neg (by decide)] at ih
            exact ih
          · rw [nI_eq (by omega) (by omega)]
            refine ⟨fun y => ?_, fun y => m_on (m_on ⟨fun u => ?_, fun u => ?_⟩)⟩
            · have : ltH s (bq (cH s g) (ltH s) n) (n + 1) = true := decide_eq_true (.inl (by omega))
              rw [bq, this, ct, Bool.and_true, if_pos rfl] at ih
              exact ih
            · have : ltH s (bq (cH s g) (ltH s) n) (n + 1) = true := decide_eq_true (.inr ⟨y.symm, u⟩)
              rw [bq, this, ct, Bool.and_true, if_pos rfl] at ih
              exact ih
            · have : ltH s (bq (cH s g) (ltH s) n) (n + 1) = false := decide_eq_false (fun t => t.elim (fun t => by omega) (fun t => u t.2))
              rw [bq, this, Bool.and_false, if_neg (by decide)] at ih
              exact ih
        · rw [bq, cH_f (fun w => a w.2), Bool.false_and, if_neg (by decide)] at ih
          exact ih
  unfold w_X5_grassOf
  rw [cl_nI (by omega), show s (42 + 1) f = nI g from (i.2.1.2.1 f (by omega)).trans eg]
  refine ⟨fun z => absurd z (nI_pos (by omega)), fun _ => ⟨fun z => absurd z (nI_ge (b := 6) (by omega) (by omega)), fun _ => ⟨vp_in_nI (by omega) (by omega), ?_⟩⟩⟩
  unfold w_X2_heaviestFed
  refine c_there ?_
  rw [there_eq i]
  refine c_reckonAll i.2.2.2.2.1 (by omega) (by omega) (Inv_vC i) (fun s1 f1 g1 => ?_)
  have k1 : kp s s1 := by
    refine ⟨fun a ha => f1 a (fun e => by subst e; cases ha) (fun e => by subst e; cases ha) (fun e => by subst e; cases ha) (fun e => by subst e; cases ha), fun j _ => by rw [f1 69 (by omega) (by omega) (by omega) (by omega)]⟩
  unfold l_X2_heaviestFed_17
  intro P hP
  refine loopUp (P := fun k => ∀ s', (∀ y, y ≠ 63 → s' y = s1 y) → (∀ j, j < k → s' 63 j = nI (1024 * WW s j + AA s j)) → P (nI k) s') 12 ?_ ?_ s1 (fun _ _ => rfl) (fun j hj => absurd hj (Nat.not_lt_zero j))
  · intro s2 f2 g2
    refine hP _ _ ⟨fun _ => c_sumParts g2 (fun s3 f3 g3 => ?_), fun z => absurd (by decide) z⟩
    have k3 : kp s s3 := k1.trans (kp_63 (fun y y1 y2 => by rw [f3 y y2, f2 y y1]))
    unfold l_X2_heaviestFed_68
    intro P2 hP2
    refine loopUp (P := fun n => P2 (nI (bq (cH s g) (ltH s) n)) (nI (n + 1)) s3) 4095 ?_ ?_
    · refine hP2 _ _ _ ⟨fun _ => ⟨fun q0 => fin s3 k3 _ (fun q1 => absurd q1 q0) (fun _ => rfl), fun q0 => c_weight (fin s3 k3 _ (fun _ => ?_) (fun q1 => absurd q0 q1))⟩, fun z => absurd (by decide) z⟩
      rw [sm_tS (f := fun k => s3 (42 + 2) k) (m := WW s) (fun k hk => ?_)]
      · rfl
      · rw [k3.1 (42 + 2) rfl, (Inv_m i (b := k) (by omega)).1]; exact (WW_ok i (by omega)).2
    · intro n hn ih
      obtain ⟨bl, bo⟩ := bq_le (c := cH s g) (lt := ltH s) n
      refine hP2 _ _ _ ⟨fun z => absurd z (nI_ge (b := 4096) (by omega) (by omega)), fun _ => ?_⟩
      rw [nI_1, cl_nI (by omega)]
      refine ⟨fun z => ?_, fun z => ⟨vp_in_nI (by omega) (by omega), ?_⟩⟩
      · rw [bq, cH_f (fun w => z w.1), Bool.false_and, if_neg (by decide)] at ih
        exact ih
      · have e1 := (g3 (n + 1) (by omega) z).trans (Sg_herd (n + 1))
        have wb1 := WS_bd i (n + 1)
        have wb2 := WS_bd i (bq (cH s g) (ltH s) n)
        have ab1 := AS_bd (s := s) (n + 1)
        have ab2 := AS_bd (s := s) (bq (cH s g) (ltH s) n)
        rw [e1, show (1024 : Int32) = nI 1024 from rfl, nI_mod (by omega) (by omega), show (1024 * WS s (n + 1) + AS s (n + 1)) % 1024 = AS s (n + 1) by omega, nI_ltI (by omega) (by omega)]
        have e2 : s3 64 (bq (cH s g) (ltH s) n) = nI (1024 * WS s (bq (cH s g) (ltH s) n) + AS s (bq (cH s g) (ltH s) n)) := by
          refine (g3 _ (by omega) ?_).trans (Sg_herd _)
          rcases bo with z0 | z0
          · rw [z0]; exact bt_eq0.2 (fun j hj => by rw [b_and, bt_nI (by omega), Nat.zero_testBit, Bool.false_and])
          · exact (@of_decide_eq_true _ (Classical.propDecidable _) z0).1
        refine ⟨fun a => ?_, fun a => c_better (by omega) (by omega) (by omega) (by omega) (by omega) (by omega) e1 e2 (fun y => m_if1B ?_) (fun y => m_if0B ?_)⟩
        · rw [bq, cH_f (fun w => by omega), Bool.false_and, if_neg (by decide)] at ih
          exact ih
        · have : ltH s (bq (cH s g) (ltH s) n) (n + 1) = true := decide_eq_true y
          rw [bq, this, cH_t ⟨z, by omega⟩, Bool.and_true, if_pos rfl] at ih
          exact ih
        · have : ltH s (bq (cH s g) (ltH s) n) (n + 1) = false := decide_eq_false y
          rw [bq, this, Bool.and_false, if_neg (by decide)] at ih
          exact ih
  · intro k hk ih s2 f2 g2
    have v13 : vp_in (nI k) 13 := vp_in_nI (by omega) (by omega)
    refine hP _ _ ⟨fun z => absurd z (nI_ge (b := 12) hk (by omega)), fun _ => ⟨v13, v13, vp_in_nI hk (by omega), ?_⟩⟩
    have e44 : s2 44 k = nI (WW s k) := by rw [f2 44 (by omega), f1 44 (by omega) (by omega) (by omega) (by omega)]; exact (Inv_m i (b := k) (by omega)).1.trans (WW_ok i (by omega)).2
    have e49 : s2 49 k = nI (AA s k) := by rw [f2 49 (by omega)]; exact ((g1 k (by omega)).trans (ap_eq i (by omega))).trans AA_ok.2
    rw [cl_nI (by omega), e44, e49, show (1024 : Int32) = nI 1024 from rfl, nI_mul, nI_add, Nat.mul_comm (WW s k) 1024, nI_1]
    refine ih _ (fun y hy => by rw [u_ne hy]; exact f2 y hy) (fun j hj => ?_)
    by_cases e : j = k
    · rw [e, u_eq]
    · rw [u_at e]; exact g2 j (by omega)
