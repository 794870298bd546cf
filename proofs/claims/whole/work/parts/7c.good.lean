/-! HOW MANY BITS -/
def on (x : Int32) : Int32 := sm (fun k => if bt x k = true then 1 else 0) 13
def bc1 (p : Int32) : Int32 := p - (((p.toUInt32 >>> ((1 : Int32).toUInt32 &&& Int32.toUInt32 31)).toInt32) &&& (1431655765 : Int32))
def bc2 (y : Int32) : Int32 := (y &&& (858993459 : Int32)) + (((y.toUInt32 >>> ((2 : Int32).toUInt32 &&& Int32.toUInt32 31)).toInt32) &&& (858993459 : Int32))
def bc3 (y : Int32) : Int32 := (y + ((y.toUInt32 >>> ((4 : Int32).toUInt32 &&& Int32.toUInt32 31)).toInt32)) &&& (252645135 : Int32)
def bc4 (y : Int32) : Int32 := y + ((y.toUInt32 >>> ((8 : Int32).toUInt32 &&& Int32.toUInt32 31)).toInt32)
def bc5 (y : Int32) : Int32 := y + ((y.toUInt32 >>> ((16 : Int32).toUInt32 &&& Int32.toUInt32 31)).toInt32)
theorem bc_all : ∀ a, a < 64 → ∀ b, b < 64 → (bc5 (bc4 (bc3 (bc2 (bc1 (nI (64 * a + b)))))) &&& (63 : Int32)) = on (nI (64 * a + b)) := by decide +kernel
theorem bt_nI {n i : Nat} (h : n < 4294967296) : bt (nI n) i = n.testBit i := by
  unfold bt
  show (BitVec.ofNat 32 n).getLsbD i = _
  rw [BitVec.getLsbD_ofNat]
  rcases Nat.lt_or_ge i 32 with hi | hi
  · rw [decide_eq_true hi, Bool.true_and]
  · rw [decide_eq_false (by omega), Bool.false_and]
    symm
    exact Nat.testBit_lt_two_pow (Nat.lt_of_lt_of_le h (Nat.pow_le_pow_right (n := 2) (by decide) hi))
theorem small12 {x : Int32} (h : ∀ i, 12 ≤ i → i < 32 → bt x i = false) : ∃ n, n < 4096 ∧ x = nI n := by
  refine ⟨x.toBitVec.toNat, ?_, ?_⟩
  · refine Nat.lt_pow_two_of_testBit (n := 12) _ (fun i hi => ?_)
    rcases Nat.lt_or_ge i 32 with h1 | h1
    · exact h i hi h1
    · exact BitVec.getLsbD_of_ge x.toBitVec i h1
  · apply Int32.toBitVec_inj.mp
    show x.toBitVec = BitVec.ofNat 32 x.toBitVec.toNat
    rw [BitVec.ofNat_toNat, BitVec.setWidth_eq]
theorem bs_small (p : Nat → Bool) {n : Nat} (hn : n ≤ 12) : ∃ m, m < 4096 ∧ bs p n = nI m := small12 (fun i h1 h2 => by rw [bs_bt p n (by omega), decide_eq_false (by omega)]; rfl)
theorem c_bc {n : Nat} {Q : Int32 → ac_m → Prop} {s : ac_m} (hn : n < 4096) (h : Q (on (nI n)) s) : w_J6_bitCount_0f7a4 (nI n) Q s := by
  have e := bc_all (n / 64) (by omega) (n % 64) (by omega)
  rw [show 64 * (n / 64) + n % 64 = n by omega] at e
  unfold w_J6_bitCount_0f7a4
  intro y1 e1 y2 e2 y3 e3 y4 e4 y5 e5
  have : y5 = bc5 (bc4 (bc3 (bc2 (bc1 (nI n))))) := by subst e1 e2 e3 e4; exact e5
  rw [this, e]
  exact h
theorem c_bcS {x : Int32} {Q : Int32 → ac_m → Prop} {s : ac_m} (hx : ∃ n, n < 4096 ∧ x = nI n) (h : Q (on x) s) : w_J6_bitCount_0f7a4 x Q s := by
  obtain ⟨n, hn, e⟩ := hx
  subst e
  exact c_bc hn h
theorem sm01 {f : Nat → Int32} : ∀ {n : Nat}, (∀ k, k < n → f k = 0 ∨ f k = 1) → ∃ m, m ≤ n ∧ sm f n = nI m
  | 0, _ => ⟨0, Nat.le_refl 0, rfl⟩
  | n + 1, h => by
    obtain ⟨m, hm, e⟩ := sm01 (n := n) (fun k hk => h k (by omega))
    rcases h n (by omega) with e1 | e1
    · exact ⟨m, by omega, by rw [sm, e, e1, Int32.add_zero]⟩
    · exact ⟨m + 1, by omega, by rw [sm, e, e1, nI_1]⟩
theorem on_nI (x : Int32) : ∃ m, m ≤ 13 ∧ on x = nI m := sm01 (fun k _ => by by_cases c : bt x k = true <;> simp [c])
/-! GOOD -/
def gq (d g p : Int32) : Bool := decide ((if ¬ d ≤ g then (0 : Int32) else if d = g then 1 else 2) = p)
def sd (s : ac_m) (B k c : Nat) : Int32 := on (bs (fun j => decide (0 < s 556 j ∧ s (102 + j) c = nI k)) B)
theorem gq_if {d g p : Int32} {P : Int32 → Prop} {A A' : Int32} (ih : P (if gq d g p = true then A' else A)) :
    (d ≤ g → ((¬ d = g → ((¬ (2 : Int32) = p → P A) ∧ ((2 : Int32) = p → P A'))) ∧ (d = g → ((¬ (1 : Int32) = p → P A) ∧ ((1 : Int32) = p → P A'))))) ∧ (¬ d ≤ g → ((¬ (0 : Int32) = p → P A) ∧ ((0 : Int32) = p → P A'))) := by
  have y (h : gq d g p = true) : P A' := by rw [if_pos h] at ih; exact ih
  have n (h : gq d g p = false) : P A := by rw [if_neg (by rw [h]; decide)] at ih; exact ih
  refine ⟨fun a => ⟨fun b => ⟨fun c => n ?_, fun c => y ?_⟩, fun b => ⟨fun c => n ?_, fun c => y ?_⟩⟩, fun a => ⟨fun c => n ?_, fun c => y ?_⟩⟩
  · unfold gq; rw [if_neg (fun z => z a), if_neg b]; exact decide_eq_false c
  · unfold gq; rw [if_neg (fun z => z a), if_neg b]; exact decide_eq_true c
  · unfold gq; rw [if_neg (fun z => z a), if_pos b]; exact decide_eq_false c
  · unfold gq; rw [if_neg (fun z => z a), if_pos b]; exact decide_eq_true c
  · unfold gq; rw [if_pos a]; exact decide_eq_false c
  · unfold gq; rw [if_pos a]; exact decide_eq_true c
theorem m_on {p : Int32} {Q : Int32 → ac_m → Prop} {s : ac_m} (h : Q (on p) s) : w_X12_ones p Q s := m_ones h
theorem m_side0 {B k : Nat} {Q : Int32 → ac_m → Prop} {s : ac_m} (hB : s 73 1 = nI B) (hb : B ≤ 12) (h : ∀ x, x = bs (fun j => decide (0 < s 556 j ∧ s (102 + j) 0 = nI k)) B → Q x s) : w_X12_sideOf (nI k) 0 Q s := m_side hB hb (vp_in_nI (n := 0) (by omega) (by omega)) (h _ rfl)
theorem m_side1 {B k : Nat} {Q : Int32 → ac_m → Prop} {s : ac_m} (hB : s 73 1 = nI B) (hb : B ≤ 12) (h : ∀ x, x = bs (fun j => decide (0 < s 556 j ∧ s (102 + j) 1 = nI k)) B → Q x s) : w_X12_sideOf (nI k) 1 Q s := m_side hB hb (vp_in_nI (n := 1) (by omega) (by omega)) (h _ rfl)
theorem c_goodL {B F : Nat} {p : Int32} {Q : Int32 → ac_m → Prop} {X : String → ac_m → Prop} {s : ac_m} (i : Inv s) (hB : s 73 1 = nI B) (hC : s 3 11 = nI B) (hb : B ≤ 12) (hD : s 3 10 = nI F) (hf : F ≤ 6)
    (h : Q (bs (fun k => gq (sd s B k 0) (sd s B k 1) p) F) s) : l_X11_good_20 p Q X p (bs (fun k => decide (0 < s (42 + 2) k)) 12) 0 0 s := by
  unfold l_X11_good_20
  intro P hP
  refine loopUp (P := fun k => P (bs (fun k => gq (sd s B k 0) (sd s B k 1) p) k) (nI k) s) F ?_ ?_
  · exact hP _ _ _ ⟨fun _ => h, fun hc => absurd (by rw [hD]; exact Int32.le_refl _) hc⟩
  · intro k hk ih
    refine hP _ _ _ ⟨fun z => absurd z (by rw [hD]; exact nI_ge hk (by omega)), fun _ => ?_⟩
    unfold w_X3_doneBy w_X3_doneFor
    refine c_match hC hb ?_
    show w_J6_bitCount_0f7a4 _ _ s
    rw [side_eq (c := 0) i hb (fun k hk => (Inv_b i hB hb hk).1)]
    refine c_bcS (bs_small _ hb) (c_match hC hb ?_)
    show w_J6_bitCount_0f7a4 _ _ s
    rw [side_eq (c := 1) i hb (fun k hk => (Inv_b i hB hb hk).2.1)]
    refine c_bcS (bs_small _ hb) ?_
    show (sd s B k 0 ≤ sd s B k 1 → _) ∧ (¬ sd s B k 0 ≤ sd s B k 1 → _)
    rw [nI_1]
    rw [bs] at ih
    exact gq_if (P := fun v => P v (nI (k + 1)) s) ih
theorem m_goodL {B F : Nat} {p : Int32} {Q : Int32 → ac_m → Prop} {s : ac_m} (hB : s 73 1 = nI B) (hb : B ≤ 12) (hF : s 73 0 = nI F) (hf : F ≤ 6)
    (h : Q (bs (fun k => gq (sd s B k 0) (sd s B k 1) p) F) s) : l_X12_good_34 p Q p 0 0 s := by
  unfold l_X12_good_34
  intro P hP
  refine loopUp (P := fun k => P (bs (fun k => gq (sd s B k 0) (sd s B k 1) p) k) (nI k) s) F ?_ ?_
  · exact hP _ _ _ ⟨fun _ => h, fun hc => absurd (by rw [show (s 73 (0 : Int32).toNatClampNeg) = nI F from hF]; exact Int32.le_refl _) hc⟩
  · intro k hk ih
    refine hP _ _ _ ⟨fun z => absurd z (by rw [show (s 73 (0 : Int32).toNatClampNeg) = nI F from hF]; exact nI_ge hk (by omega)), fun _ => ?_⟩
    refine m_side0 hB hb (fun x ex => m_on (m_side1 hB hb (fun y ey => m_on ?_)))
    obtain ⟨m1, h1, e1⟩ := on_nI x
    obtain ⟨m2, h2, e2⟩ := on_nI y
    have a1 : on x ≤ 13 := by rw [e1]; exact nI_le (b := 13) h1 (by omega)
    have a2 : on y ≤ 13 := by rw [e2]; exact nI_le (b := 13) h2 (by omega)
    have b1 : 0 ≤ on x := by rw [e1]; exact nI_pos' (by omega)
    have b2 : 0 ≤ on y := by rw [e2]; exact nI_pos' (by omega)
    have e9 : ∀ x : Int32, x ||| 0 = x := fun x => Int32.or_zero
    rw [nI_1, e9]
    have s1 : sd s B k 0 = on x := by rw [ex]; rfl
    have s2 : sd s B k 1 = on y := by rw [ey]; rfl
    rw [bs, s1, s2] at ih
    have c1 : (on x - on y ≤ 0) ↔ on x ≤ on y := by clear ih hP s1 s2 ex ey e1 e2; generalize on x = d at *; generalize on y = g at *; grind
    have c2 : (on x - on y = 0) ↔ on x = on y := by clear ih hP s1 s2 ex ey e1 e2; generalize on x = d at *; generalize on y = g at *; grind
    rw [c1, c2]
    exact gq_if (P := fun v => P v (nI (k + 1)) s) ih
theorem s_good (p : Int32) (s : ac_m) (i : Inv s) : simX thA (w_X11_good p) (w_X12_good p) s := by
  obtain ⟨B, hb, hB, hC⟩ := Inv_B i
  obtain ⟨F, hf, hF, hD⟩ := Inv_F i
  unfold simX w_X11_good
  refine c_within (fun h1 h2 => ?_) (fun h => ?_)
  · refine c_there (c_goodL i hB hC hb hD hf ?_)
    unfold w_X12_good
    refine m_inA (fun _ _ => ?_) (fun z => absurd ⟨h1, h2⟩ z)
    refine m_bad0 u_eq (m_if0B ?_)
    refine m_goodL (B := B) (F := F) (by rw [u_ne (by decide)]; exact hB) hb (by rw [u_ne (by decide)]; exact hF) hf ⟨?_, u_eq, Inv_0 i⟩
    refine bs_cong (fun k hk => ?_)
    have e : ∀ c, sd (ac_u s 69 0 0) B k c = sd s B k c := fun c => by
      unfold sd
      rw [bs_cong (q := fun j => decide (0 < s 556 j ∧ s (102 + j) c = nI k)) (fun j hj => by rw [u_ne (by decide), u_ne (by omega)])]
    rw [e, e]
  · unfold w_X12_good
    refine m_inA (fun a b => absurd ⟨a, b⟩ h) (fun _ => ?_)
    exact m_bad1 u_eq (by decide) in2_1 (m_if1B ⟨⟨rfl, bad_69⟩, Inv_bad1 i⟩)
