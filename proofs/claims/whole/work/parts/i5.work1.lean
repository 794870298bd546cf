/-! WORK: a step on the row, on both sides -/
def wkSt (y : Nat) : Prop := (3 ≤ y ∧ y ≤ 12) ∨ y = 25 ∨ y = 26 ∨ y = 73 ∨ (82 ≤ y ∧ y ≤ 87) ∨ (102 ≤ y ∧ y ≤ 114) ∨ (127 ≤ y ∧ y ≤ 297)
def SF (s0 s : ac_m) : Prop := (∀ y, wkSt y → s y = s0 y) ∧ s 69 19 = s0 69 19
def wkI (s0 : ac_m) (F B : Nat) : Prop := iH s0 ∧ iL s0 ∧ s0 73 0 = nI F ∧ s0 73 1 = nI B ∧ F ≤ 6 ∧ B ≤ 12
def wkX (F B : Nat) (x : ro) : Prop := vM (nI F) x ∧ vB (nI B) x
theorem SF_iL {s0 s : ac_m} {F B : Nat} (i : wkI s0 F B) (f : SF s0 s) : iL s := iL_of i.2.1 f.2 (by rw [f.1 25 (by unfold wkSt; omega)]) (f.1 26 (by unfold wkSt; omega)) (fun j hj => f.1 _ (by unfold wkSt; omega))
theorem SF_iH {s0 s : ac_m} {F B : Nat} (i : wkI s0 F B) (f : SF s0 s) : iH s := iH_f2 i.1 (fun a ha => f.1 a (by unfold wkSt; omega))
theorem SF_I {s0 s : ac_m} {F B : Nat} (i : wkI s0 F B) (f : SF s0 s) : wkI s F B := ⟨SF_iH i f, SF_iL i f, by rw [f.1 73 (by unfold wkSt; omega)]; exact i.2.2.1, by rw [f.1 73 (by unfold wkSt; omega)]; exact i.2.2.2.1, i.2.2.2.2⟩
theorem wk_b {s : ac_m} {F B : Nat} (i : wkI s F B) {b : Nat} (h : b < B) : s 6 b = s (102 + b) 0 ∧ s 7 b = s (102 + b) 1 ∧ s 8 b = s (102 + b) 2 ∧ s 9 b = s (102 + b) 3 ∧ ∃ d e, d < F ∧ e < F ∧ d ≠ e ∧ s 6 b = nI d ∧ s 7 b = nI e ∧ 1 ≤ s 9 b ∧ s 9 b ≤ 30 := by
  obtain ⟨iH0, iL0, h0, h1, hF, hB⟩ := i
  have g := (iH0.2.2.2.1 b (by omega)).1 (by rw [h1]; exact nI_lt h (by omega))
  rw [h0] at g
  obtain ⟨d, hd, ed⟩ := of_in (by omega) g.2.2.2.2.1 g.2.2.2.2.2.1
  obtain ⟨e, he, ee⟩ := of_in (by omega) g.2.2.2.2.2.2.1 g.2.2.2.2.2.2.2.1
  refine ⟨g.1, g.2.1, g.2.2.1, g.2.2.2.1, d, e, hd, he, fun z => g.2.2.2.2.2.2.2.2.1 (by rw [ed, ee, z]), ed, ee, g.2.2.2.2.2.2.2.2.2.2.2.1, g.2.2.2.2.2.2.2.2.2.2.2.2⟩
theorem wk_En {s : ac_m} {F B : Nat} {x : ro} (i : wkI s F B) (v : wkX F B x) : En s F x := by
  refine ⟨i.2.1, i.2.2.2.2.1, i.2.2.1, vN_of v.1, fun b hb hz => ?_, fun f hf => ?_⟩
  · have hbB : b < B := by
      rcases Nat.lt_or_ge b B with c | c
      · exact c
      · exact absurd (by rw [v.2 b (by omega) (nI_le c (by omega))]; decide) hz
    obtain ⟨e1, e2, e3, e4, d, e, hd, he, de, ed, ee, _⟩ := wk_b i hbB
    have := i.2.2.2.2.1
    exact ⟨e1, e2, e3, d, e, by omega, by omega, ed, ee⟩
  · have g := i.1.2.2.1 f hf
    rw [i.2.2.1] at g
    have := i.2.2.2.2.1
    refine ⟨fun h => ?_, fun h => ?_⟩
    · have q := g.1 (nI_lt h (by omega))
      exact ⟨q.2.1, q.2.1 ▸ q.2.2.2.2.1, q.2.1 ▸ q.2.2.2.2.2⟩
    · exact (g.2 (nI_le h (by omega))).2
theorem dyF_SF {s0 s : ac_m} {F B : Nat} {x : ro} (i : wkI s0 F B) (f : SF s0 s) : dyF s F x = dyF s0 F x := by
  have ea : ∀ b, b < 13 → apX s x b = apX s0 x b := fun b hb => apX_fr f.2 (fun j hj => f.1 _ (by unfold wkSt; omega)) (f.1 _ (by unfold wkSt; omega)) i.2.1
  have := i.2.2.2.2.1
  unfold dyF
  rw [gzs_cong (fun b hb => ea b hb), gwk_cong (g' := fun f => s0 (82 + f) 1) (fun j hj => by rw [f.1 _ (by unfold wkSt; omega)])]
theorem gz_82 {F : Nat} {e x : ro} {b : Nat} (hf : F ≤ 6) (hb : b < 13) (v : vN (nI F) x) : gz e x b 82 = x 82 := by
  by_cases c : x b ≤ 0
  · unfold gz; rw [if_pos c]
  · obtain ⟨-, -, f, hf', ef⟩ := vN_on hf v hb c
    rw [gz_pt hb (by omega) c ef 82, if_neg (by omega), if_neg (by omega)]
    by_cases c2 : 0 < x b - (e b - gt e x b)
    · rw [if_pos c2]
    · rw [if_neg c2, if_neg (by omega), if_neg (by omega), if_neg (by omega)]
theorem gzs_82 {F : Nat} {e x : ro} (hf : F ≤ 6) (v : vN (nI F) x) (he : ∀ b, b < 13 → 0 ≤ e b ∧ e b ≤ 20) : ∀ {k : Nat}, k ≤ 13 → gzs e x k 82 = x 82
  | 0, _ => rfl
  | k + 1, hk => by rw [gzs, gz_82 hf (by omega) (vN_gzs hf v he (by omega)), gzs_82 hf v he (by omega)]
theorem dyF_82 {s : ac_m} {F : Nat} {x : ro} (hf : F ≤ 6) (v : vN (nI F) x) : dyF s F x 82 = x 82 + 1 := by
  unfold dyF
  rw [upd_eq, gwk_pt, if_neg (by omega), agk_pt 82 (by omega), if_neg (by omega), gzs_82 hf v (fun b _ => apX_bd s x b) (by omega)]
/-- the rows that may change -/
def wkC (s s' : ac_m) : Prop := ∀ y, y ≠ 27 → y ≠ 28 → (y < 42 ∨ 49 < y) → s' y = s y
def wkM (s s' : ac_m) : Prop := ∀ y, y ≠ 473 → y ≠ 474 → y ≠ 558 → y ≠ 556 → s' y = s y
def wkOK (F B : Nat) (k a b : Int32) : Prop := ((k = 0 ∨ k = 2 ∨ k = 3) ∧ ∃ j, j < B ∧ a = nI j) ∨ (k = 1 ∧ (∃ j, j < B ∧ a = nI j) ∧ ∃ f, f < F ∧ b = nI f) ∨ (k = 4 ∧ (∃ f, f < F ∧ a = nI f) ∧ ∃ m, m ≤ 60 ∧ b = nI m) ∨ k = 5 ∨ (k = 6 ∧ ∃ t, t ≤ 60 ∧ a = nI t)
def wkE (s0 : ac_m) (F B : Nat) (k a b : Int32) (x : ro) : Prop := ∃ (x' : ro) (r : Int32), (r = 0 ∨ r = 1) ∧ wkX F B x' ∧
  (∀ (Q : Int32 → ac_m → Prop) (s : ac_m), SF s0 s → rM s 42 x → (∀ s', wkC s s' → rM s' 42 x' → Q r s') → w_X7_isDone k a b Q s) ∧
  (∀ (Q : Int32 → ac_m → Prop) (s : ac_m) (row : Nat), SF s0 s → s 556 = x → s row 0 = k → (k ≠ 5 → s row 1 = a) → ((k = 1 ∨ k = 4) → s row 2 = b) → (∀ s', wkM s s' → s' 556 = x' → Q r s') → w_X12_does 556 row Q s)
theorem wkX_lv {F B b : Nat} {x : ro} (hb : b < 13) (v : wkX F B x) : wkX F B (lv x b) := by
  refine ⟨vM_of (vN_lv hb (vN_of v.1)) ?_ ?_, fun c hc h => ?_⟩
  · rw [lv_pt hb, if_neg (by omega), if_neg (by omega), if_neg (by omega)]; exact v.1.2.2.2.1
  · rw [lv_pt hb, if_neg (by omega), if_neg (by omega), if_neg (by omega)]; exact v.1.2.2.2.2
  · rw [lv_pt hb, if_neg (show c ≠ 13 + b by omega), if_neg (show c ≠ 26 + b by omega)]
    by_cases e : c = b
    · rw [if_pos e]
    · rw [if_neg e]; exact v.2 c hc h
theorem rM_un {s s' : ac_m} {x : ro} (m : rM s 42 x) (f : ∀ y, (42 ≤ y ∧ y ≤ 47) → s' y = s y) : rM s' 42 x := rM_fr (s := s) (fun j hj => f _ (by omega)) m
theorem wk_ask {s0 : ac_m} {F B j : Nat} {b : Int32} {x : ro} (i : wkI s0 F B) (hj : j < B) (v : wkX F B x) : wkE s0 F B 0 (nI j) b x := by
  have hB := i.2.2.2.2.2
  by_cases c : x j ≤ 0
  · refine ⟨x, 0, .inl rfl, v, fun Q s f m h => ?_, fun Q s row f e k0 k1 k2 h => ?_⟩
    · exact ⟨fun _ => c_ask m (by omega) (fun _ => ⟨bo_0, h s (fun _ _ _ _ => rfl) m⟩) (fun z => absurd c z), fun z => absurd z (by decide), fun z => absurd z (by decide), fun z => absurd z (by decide), fun z => absurd z (by decide), fun z => absurd rfl z.1⟩
    · unfold w_X12_does
      have z0 : (0 : Int32).toNatClampNeg = 0 := rfl
      have z1 : (1 : Int32).toNatClampNeg = 1 := rfl
      rw [z0, k0, z1, k1 (by decide)]
      exact ⟨fun _ => m_asks (by omega) (fun _ => ⟨bo_0, h s (fun _ _ _ _ _ => rfl) e⟩) (fun z => absurd (by rw [e]; exact c) z), fun z => absurd z (by decide), fun z => absurd z (by decide), fun z => absurd z (by decide), fun z => absurd z (by decide), fun z => absurd rfl z.1⟩
  · refine ⟨lv x j, 1, .inr rfl, wkX_lv (by omega) v, fun Q s f m h => ?_, fun Q s row f e k0 k1 k2 h => ?_⟩
    · exact ⟨fun _ => c_ask m (by omega) (fun z => absurd z c) (fun _ s' g m' => ⟨bo_1, h s' (fun y _ _ y3 => g y (by omega) (by omega) (by omega)) m'⟩), fun z => absurd z (by decide), fun z => absurd z (by decide), fun z => absurd z (by decide), fun z => absurd z (by decide), fun z => absurd rfl z.1⟩
    · unfold w_X12_does
      have z0 : (0 : Int32).toNatClampNeg = 0 := rfl
      have z1 : (1 : Int32).toNatClampNeg = 1 := rfl
      rw [z0, k0, z1, k1 (by decide)]
      exact ⟨fun _ => m_asks (by omega) (fun z => absurd (by rw [e] at z; exact z) c) (fun _ s' g e' => ⟨bo_1, h s' (fun y _ _ _ y4 => g y y4) (by rw [e', e])⟩), fun z => absurd z (by decide), fun z => absurd z (by decide), fun z => absurd z (by decide), fun z => absurd z (by decide), fun z => absurd rfl z.1⟩
theorem wk_do {s0 : ac_m} {F B j : Nat} {b : Int32} {x : ro} (i : wkI s0 F B) (hj : j < B) (v : wkX F B x) : wkE s0 F B 3 (nI j) b x := by
  have hB := i.2.2.2.2.2
  obtain ⟨e1, e2, e3, e4, d, e, hd, he, de, ed, ee, w1, w2⟩ := wk_b i hj
  have cls : ∀ {s : ac_m}, SF s0 s → s 3 11 = nI B ∧ s 9 j = s (102 + j) 3 ∧ s 6 j = s (102 + j) 0 := fun {s} f => by
    have I := SF_I i f
    exact ⟨by rw [I.1.2.1.2.1]; exact I.2.2.2.1, (wk_b I hj).2.2.2.1, (wk_b I hj).1⟩
  have cmE : ∀ {s : ac_m} {x : ro}, SF s0 s → cm s x j = cm s0 x j := fun {s x} f => by unfold cm; rw [f.1 (102 + j) (by unfold wkSt; omega)]
  by_cases c : x j ≤ 0
  · have vx : wkX F B (cm s0 x j) := by
      refine ⟨vM_of (vN_cm (by omega) (vN_of v.1) ⟨by rw [← e4]; exact w1, by rw [← e4]; exact w2, by rw [← e1, ed]; exact nI_pos' (by have := i.2.2.2.2.1; omega), by rw [← e1, ed]; exact nI_lt hd (by have := i.2.2.2.2.1; omega)⟩) ?_ ?_, fun c hc h => ?_⟩
      · rw [cm_pt (by omega), if_neg (by omega), if_neg (by omega), if_neg (by omega)]; exact v.1.2.2.2.1
      · rw [cm_pt (by omega), if_neg (by omega), if_neg (by omega), if_neg (by omega)]; exact v.1.2.2.2.2
      · have hcj : c ≠ j := fun z => by
          have := (nI_leI (by omega) (by omega)).1 h
          omega
        rw [cm_pt (by omega), if_neg hcj, if_neg (by omega), if_neg (by omega)]; exact v.2 c hc h
    refine ⟨cm s0 x j, 1, .inr rfl, vx, fun Q s f m h => ?_, fun Q s row f e k0 k1 k2 h => ?_⟩
    · have q := cls f
      exact ⟨fun z => absurd z (by decide), fun z => absurd z (by decide), fun z => absurd z (by decide), fun _ => c_again (by omega) m q.1 hB hj q.2.1 q.2.2 (fun z => absurd c z) (fun _ s' g m' => ⟨bo_1, h s' (fun y _ _ y3 => g y (by omega) (by omega) (by omega)) (by rw [← cmE f]; exact m')⟩), fun z => absurd z (by decide), fun z => absurd rfl z.2.2.2.1⟩
    · unfold w_X12_does
      have z0 : (0 : Int32).toNatClampNeg = 0 := rfl
      have z1 : (1 : Int32).toNatClampNeg = 1 := rfl
      rw [z0, k0, z1, k1 (by decide)]
      exact ⟨fun z => absurd z (by decide), fun z => absurd z (by decide), fun z => absurd z (by decide), fun _ => m_again (by omega) (by omega) (fun z => absurd (by rw [e]; exact c) z) (fun _ s' g e' => ⟨bo_1, h s' (fun y _ _ _ y4 => g y y4) (by rw [e', e, cmE f])⟩), fun z => absurd z (by decide), fun z => absurd rfl z.2.2.2.1⟩
  · refine ⟨x, 0, .inl rfl, v, fun Q s f m h => ?_, fun Q s row f e k0 k1 k2 h => ?_⟩
    · have q := cls f
      exact ⟨fun z => absurd z (by decide), fun z => absurd z (by decide), fun z => absurd z (by decide), fun _ => c_again (by omega) m q.1 hB hj q.2.1 q.2.2 (fun _ => ⟨bo_0, h s (fun _ _ _ _ => rfl) m⟩) (fun z => absurd z c), fun z => absurd z (by decide), fun z => absurd rfl z.2.2.2.1⟩
    · unfold w_X12_does
      have z0 : (0 : Int32).toNatClampNeg = 0 := rfl
      have z1 : (1 : Int32).toNatClampNeg = 1 := rfl
      rw [z0, k0, z1, k1 (by decide)]
      exact ⟨fun z => absurd z (by decide), fun z => absurd z (by decide), fun z => absurd z (by decide), fun _ => m_again (by omega) (by omega) (fun _ => ⟨bo_0, h s (fun _ _ _ _ _ => rfl) e⟩) (fun z => absurd (by rw [e] at z; exact z) c), fun z => absurd z (by decide), fun z => absurd rfl z.2.2.2.1⟩
theorem wk_drive {s0 : ac_m} {F B j g : Nat} {x : ro} (i : wkI s0 F B) (hj : j < B) (hg : g < F) (v : wkX F B x) : wkE s0 F B 1 (nI j) (nI g) x := by
  have hB := i.2.2.2.2.2
  have hF := i.2.2.2.2.1
  have cls : ∀ {s : ac_m}, SF s0 s → s 3 10 = nI F := fun {s} f => by
    have I := SF_I i f
    rw [I.1.2.1.1]; exact I.2.2.1
  by_cases c : x j ≤ 0 ∨ x (26 + j) = nI g
  · refine ⟨x, 0, .inl rfl, v, fun Q s f m h => ?_, fun Q s row f e k0 k1 k2 h => ?_⟩
    · exact ⟨fun z => absurd z (by decide), fun _ => c_drive m (cls f) hF hg (by omega) (fun _ => ⟨bo_0, h s (fun _ _ _ _ => rfl) m⟩) (fun z => absurd c z), fun z => absurd z (by decide), fun z => absurd z (by decide), fun z => absurd z (by decide), fun z => absurd rfl z.2.1⟩
    · unfold w_X12_does
      have z0 : (0 : Int32).toNatClampNeg = 0 := rfl
      have z1 : (1 : Int32).toNatClampNeg = 1 := rfl
      have z2 : (2 : Int32).toNatClampNeg = 2 := rfl
      rw [z0, k0, z1, k1 (by decide), z2, k2 (.inl rfl)]
      exact ⟨fun z => absurd z (by decide), fun _ => m_drives (by omega) (fun _ => ⟨bo_0, h s (fun _ _ _ _ _ => rfl) e⟩) (fun z => absurd (by rw [e]; exact c) z), fun z => absurd z (by decide), fun z => absurd z (by decide), fun z => absurd z (by decide), fun z => absurd rfl z.2.1⟩
  · have vx : wkX F B (dv x j (nI g)) := by
      refine ⟨vM_of (vN_dv (by omega) (vN_of v.1) (fun z => c (.inl z)) (nI_pos' (by omega)) (nI_lt hg (by omega))) ?_ ?_, fun c hc h => ?_⟩
      · unfold dv; rw [upd_ne (by omega)]; exact v.1.2.2.2.1
      · unfold dv; rw [upd_ne (by omega)]; exact v.1.2.2.2.2
      · unfold dv; rw [upd_ne (by omega)]; exact v.2 c hc h
    refine ⟨dv x j (nI g), 1, .inr rfl, vx, fun Q s f m h => ?_, fun Q s row f e k0 k1 k2 h => ?_⟩
    · exact ⟨fun z => absurd z (by decide), fun _ => c_drive m (cls f) hF hg (by omega) (fun z => absurd z c) (fun _ s' q m' => ⟨bo_1, h s' (fun y _ _ y3 => q y (by omega)) m'⟩), fun z => absurd z (by decide), fun z => absurd z (by decide), fun z => absurd z (by decide), fun z => absurd rfl z.2.1⟩
    · unfold w_X12_does
      have z0 : (0 : Int32).toNatClampNeg = 0 := rfl
      have z1 : (1 : Int32).toNatClampNeg = 1 := rfl
      have z2 : (2 : Int32).toNatClampNeg = 2 := rfl
      rw [z0, k0, z1, k1 (by decide), z2, k2 (.inl rfl)]
      exact ⟨fun z => absurd z (by decide), fun _ => m_drives (by omega) (fun z => absurd (by rw [e] at z; exact z) c) (fun _ s' q e' => ⟨bo_1, h s' (fun y _ _ _ y4 => q y y4) (by rw [e', e])⟩), fun z => absurd z (by decide), fun z => absurd z (by decide), fun z => absurd z (by decide), fun z => absurd rfl z.2.1⟩
theorem wk_day {s0 : ac_m} {F B : Nat} {a b : Int32} {x : ro} (i : wkI s0 F B) (v : wkX F B x) : wkE s0 F B 5 a b x := by
  have hF := i.2.2.2.2.1
  have hB := i.2.2.2.2.2
  by_cases c : x 82 < 400
  · have en := wk_En i v
    have vx : wkX F B (dyF s0 F x) := by
      refine ⟨vM_of (En_day en).2.2.2.1 ?_ ?_, fun c hc h => ?_⟩
      · rw [dyF_82 hF (vN_of v.1)]
        have := v.1.2.2.2.1
        grind
      · rw [dyF_82 hF (vN_of v.1)]
        have := v.1.2.2.2.1
        grind
      · have z := v.2 c hc h
        rw [dyF_gone hc (by rw [z]; decide)]; exact z
    have n12 : x 12 ≤ 0 := by rw [v.2 12 (by omega) (nI_le hB (by omega))]; decide
    refine ⟨dyF s0 F x, 1, .inr rfl, vx, fun Q s f m h => ?_, fun Q s row f e k0 k1 k2 h => ?_⟩
    · refine ⟨fun z => absurd z (by decide), fun z => absurd z (by decide), fun z => absurd z (by decide), fun z => absurd z (by decide), fun z => absurd z (by decide), fun _ => ⟨fun _ => ?_, fun z => absurd (by rw [m.2.2.2.2]; exact c) z⟩⟩
      have en := wk_En (SF_I i f) v
      refine c_passDay en.1 (by omega) (by omega) hF m en.2.2.2.1 en.2.2.2.2.1 en.2.2.2.2.2 (fun z => absurd n12 z) (fun s' g g9 m' => h s' (fun y y1 y2 y3 => g y y1 y2 (by omega)) (by rw [← dyF_SF i f]; exact m'))
    · unfold w_X12_does
      have z0 : (0 : Int32).toNatClampNeg = 0 := rfl
      have z82 : (82 : Int32).toNatClampNeg = 82 := rfl
      rw [z0, k0, z82]
      refine ⟨fun z => absurd z (by decide), fun z => absurd z (by decide), fun z => absurd z (by decide), fun z => absurd z (by decide), fun z => absurd z (by decide), fun _ => ⟨fun _ => ?_, fun z => absurd (by rw [e]; exact c) z⟩⟩
      have en : En s F (s 556) := by rw [e]; exact wk_En (SF_I i f) v
      exact m_dayEnds en.1 (.inl rfl) en.2.2.1 hF (En_vR en) en.2.2.2.1 (fun s' g e' => h s' g (by rw [e', e, dyF_SF i f]))
  · refine ⟨x, 0, .inl rfl, v, fun Q s f m h => ?_, fun Q s row f e k0 k1 k2 h => ?_⟩
    · exact ⟨fun z => absurd z (by decide), fun z => absurd z (by decide), fun z => absurd z (by decide), fun z => absurd z (by decide), fun z => absurd z (by decide), fun _ => ⟨fun z => absurd (by rw [m.2.2.2.2] at z; exact z) c, fun _ => h s (fun _ _ _ _ => rfl) m⟩⟩
    · unfold w_X12_does
      have z0 : (0 : Int32).toNatClampNeg = 0 := rfl
      have z82 : (82 : Int32).toNatClampNeg = 82 := rfl
      rw [z0, k0, z82]
      exact ⟨fun z => absurd z (by decide), fun z => absurd z (by decide), fun z => absurd z (by decide), fun z => absurd z (by decide), fun z => absurd z (by decide), fun _ => ⟨fun z => absurd (by rw [e] at z; exact z) c, fun _ => h s (fun _ _ _ _ _ => rfl) e⟩⟩
theorem lss_lt {p v : Int32} : lss p v = if v < p then v else p := by
  unfold lss
  by_cases c : v < p
  · rw [if_pos c, if_pos (Int32.le_of_lt c)]
  · rw [if_neg c]
    by_cases d : v ≤ p
    · rw [if_pos d]; exact Int32.le_antisymm d (Int32.not_lt.1 c)
    · rw [if_neg d]
theorem rM_hay {s : ac_m} {x : ro} {f : Nat} {v : Int32} (m : rM s 42 x) (hf : f < 6) : rM (ac_u s (42 + 1) f v) 42 (upd x (39 + f) v) := by
  refine ⟨fun c hc => ?_, fun k hk => ?_, fun k hk => ?_, ?_, ?_⟩
  · rw [u_ne (by omega), u_ne (by omega), u_ne (by omega), upd_ne (by omega), upd_ne (by omega), upd_ne (by omega)]; exact m.1 c hc
  · by_cases e : k = f
    · rw [e, u_eq, upd_eq]
    · rw [u_at e, upd_ne (by omega)]; exact m.2.1 k hk
  · rw [u_ne (by omega), upd_ne (by omega)]; exact m.2.2.1 k hk
  · rw [u_ne (by omega), upd_ne (by omega)]; exact m.2.2.2.1
  · rw [u_ne (by omega), upd_ne (by omega)]; exact m.2.2.2.2
theorem wk_hay {s0 : ac_m} {F B g h' : Nat} {x : ro} (i : wkI s0 F B) (hg : g < F) (hh : h' ≤ 60) (v : wkX F B x) : wkE s0 F B 4 (nI g) (nI h') x := by
  have hF := i.2.2.2.2.1
  have z39 : (39 : Int32) + nI g = nI (39 + g) := nI_add 39 g
  have vp : vp_in (nI g) 6 := vp_in_nI (by omega) (by omega)
  have vp2 : vp_in (nI (39 + g)) 83 := vp_in_nI (by omega) (by omega)
  have cls : ∀ {s : ac_m}, SF s0 s → s 3 10 = nI F := fun {s} f => by
    have I := SF_I i f
    rw [I.1.2.1.1]; exact I.2.2.1
  have gr := v.1.2.1 g (by omega)
  by_cases c : x (39 + g) < 99
  · obtain ⟨k, hk, ek⟩ := nI_of2 (M := 99) (n := 99) rfl (Int32.not_lt.2 gr.1) gr.2.1
    have bd : 0 ≤ lss 99 (x (39 + g) + nI h') ∧ lss 99 (x (39 + g) + nI h') ≤ 99 := by
      rw [ek, nI_add]
      unfold lss
      by_cases d : nI (k + h') ≤ 99
      · rw [if_pos d]; exact ⟨nI_pos' (by omega), d⟩
      · rw [if_neg d]; exact ⟨by decide, by decide⟩
    have vx : wkX F B (upd x (39 + g) (lss 99 (x (39 + g) + nI h'))) := by
      refine ⟨⟨fun b hb => ?_, fun f hf => ?_, fun a b ha hb => ?_, ?_, ?_⟩, fun b hb h => ?_⟩
      · rw [upd_ne (by omega), upd_ne (by omega), upd_ne (by omega)]; exact v.1.1 b hb
      · by_cases e : f = g
        · rw [e, upd_eq]
          exact ⟨bd.1, bd.2, fun z => absurd ((nI_leI (by omega) (by omega)).1 z) (by omega)⟩
        · rw [upd_ne (by omega)]; exact v.1.2.1 f hf
      · rw [upd_ne (by omega), upd_ne (by omega)]; exact v.1.2.2.1 a b ha hb
      · rw [upd_ne (by omega)]; exact v.1.2.2.2.1
      · rw [upd_ne (by omega)]; exact v.1.2.2.2.2
      · rw [upd_ne (by omega)]; exact v.2 b hb h
    refine ⟨_, 1, .inr rfl, vx, fun Q s f m h => ?_, fun Q s row f e k0 k1 k2 h => ?_⟩
    · refine ⟨fun z => absurd z (by decide), fun z => absurd z (by decide), fun z => absurd z (by decide), fun z => absurd z (by decide), fun _ => ?_, fun z => absurd rfl z.2.2.2.2⟩
      unfold w_X5_giveHay
      refine c_hasFolk (cls f) hF hg (m_if1B ⟨vp, fun _ => ⟨vp, vp, bo_1, ?_⟩, fun z => absurd ?_ z⟩)
      · rw [cl_nI (by omega), m.2.1 g (by omega), ← lss_lt]
        exact h _ (fun y _ _ y3 => u_ne (by omega)) (rM_hay m (by omega))
      · rw [cl_nI (by omega), m.2.1 g (by omega)]; exact c
    · unfold w_X12_does
      have z0 : (0 : Int32).toNatClampNeg = 0 := rfl
      have z1 : (1 : Int32).toNatClampNeg = 1 := rfl
      have z2 : (2 : Int32).toNatClampNeg = 2 := rfl
      rw [z0, k0, z1, k1 (by decide), z2, k2 (.inr rfl), z39, cl_nI (n := 39 + g) (by omega), e]
      refine ⟨fun z => absurd z (by decide), fun z => absurd z (by decide), fun z => absurd z (by decide), fun z => absurd z (by decide), fun _ => ⟨vp2, fun _ => ⟨vp2, m_less ⟨vp2, ?_⟩⟩, fun z => absurd c (by rw [z]; decide)⟩, fun z => absurd rfl z.2.2.2.2⟩
      exact h _ (fun y _ _ _ y4 => u_ne y4) (by rw [u_row', e])
  · have e99 : x (39 + g) = 99 := Int32.le_antisymm gr.2.1 (Int32.not_lt.1 c)
    refine ⟨x, 0, .inl rfl, v, fun Q s f m h => ?_, fun Q s row f e k0 k1 k2 h => ?_⟩
    · refine ⟨fun z => absurd z (by decide), fun z => absurd z (by decide), fun z => absurd z (by decide), fun z => absurd z (by decide), fun _ => ?_, fun z => absurd rfl z.2.2.2.2⟩
      unfold w_X5_giveHay
      refine c_hasFolk (cls f) hF hg (m_if1B ⟨vp, fun z => absurd ?_ c, fun _ => ⟨bo_0, h s (fun _ _ _ _ => rfl) m⟩⟩)
      rw [cl_nI (by omega), m.2.1 g (by omega)] at z; exact z
    · unfold w_X12_does
      have z0 : (0 : Int32).toNatClampNeg = 0 := rfl
      have z1 : (1 : Int32).toNatClampNeg = 1 := rfl
      have z2 : (2 : Int32).toNatClampNeg = 2 := rfl
      rw [z0, k0, z1, k1 (by decide), z2, k2 (.inr rfl), z39, cl_nI (n := 39 + g) (by omega), e]
      exact ⟨fun z => absurd z (by decide), fun z => absurd z (by decide), fun z => absurd z (by decide), fun z => absurd z (by decide), fun _ => ⟨vp2, fun z => absurd e99 z, fun _ => h s (fun _ _ _ _ _ => rfl) e⟩, fun z => absurd rfl z.2.2.2.2⟩
/-- two folk grow cooler -/
def ck (x : ro) (d e : Nat) : ro := upd (upd x (45 + (6 * d + e)) (lss 9 (x (45 + (6 * d + e)) + 1))) (45 + (6 * e + d)) (lss 9 (x (45 + (6 * d + e)) + 1))
theorem ck_bd : ∀ n, n ≤ 9 → 0 ≤ lss 9 (nI n + 1) ∧ lss 9 (nI n + 1) ≤ 9 := by unfold lss; decide +kernel
theorem wkX_ck {F B d e : Nat} {x : ro} (hF : F ≤ 6) (hd : d < F) (he : e < F) (de : d ≠ e) (v : wkX F B x) : wkX F B (ck x d e) := by
  have sy := v.1.2.2.1 d e (by omega) (by omega)
  obtain ⟨n, hn, en⟩ := nI_of2 (M := 9) (n := 9) rfl (Int32.not_lt.2 sy.2.1) sy.2.2.1
  have bd : 0 ≤ lss 9 (x (45 + (6 * d + e)) + 1) ∧ lss 9 (x (45 + (6 * d + e)) + 1) ≤ 9 := by rw [en]; exact ck_bd n hn
  unfold ck
  revert bd
  generalize lss 9 (x (45 + (6 * d + e)) + 1) = u
  intro bd
  refine ⟨⟨fun b hb => ?_, fun f hf => ?_, fun i j hi hj => ?_, ?_, ?_⟩, fun b hb h => ?_⟩
  · rw [upd_ne (by omega), upd_ne (by omega), upd_ne (by omega), upd_ne (by omega), upd_ne (by omega), upd_ne (by omega)]; exact v.1.1 b hb
  · rw [upd_ne (by omega), upd_ne (by omega)]; exact v.1.2.1 f hf
  · have q := v.1.2.2.1 i j hi hj
    by_cases c1 : i = d ∧ j = e
    · obtain ⟨rfl, rfl⟩ := c1
      rw [upd_ne (show 45 + (6 * i + j) ≠ 45 + (6 * j + i) by omega), upd_eq, upd_eq]
      exact ⟨rfl, bd.1, bd.2, fun z => absurd z de, fun z => absurd ((nI_leI (by omega) (by omega)).1 z) (by omega)⟩
    · by_cases c2 : i = e ∧ j = d
      · obtain ⟨rfl, rfl⟩ := c2
        rw [upd_eq, upd_ne (show 45 + (6 * j + i) ≠ 45 + (6 * i + j) by omega), upd_eq]
        exact ⟨rfl, bd.1, bd.2, fun z => absurd z.symm de, fun z => absurd ((nI_leI (by omega) (by omega)).1 z) (by omega)⟩
      · rw [upd_ne (by omega), upd_ne (by omega), upd_ne (by omega), upd_ne (by omega)]; exact q
  · rw [upd_ne (by omega), upd_ne (by omega)]; exact v.1.2.2.2.1
  · rw [upd_ne (by omega), upd_ne (by omega)]; exact v.1.2.2.2.2
  · rw [upd_ne (by omega), upd_ne (by omega)]; exact v.2 b hb h
theorem rM_ck {s : ac_m} {x : ro} {i j : Nat} {u : Int32} (m : rM s 42 x) (hi : i < 6) (hj : j < 6) : rM (ac_u s (42 + 5) (i * 6 + j) u) 42 (upd x (45 + (6 * i + j)) u) := by
  refine ⟨fun c hc => ?_, fun k hk => ?_, fun k hk => ?_, ?_, ?_⟩
  · rw [u_ne (by omega), u_ne (by omega), u_ne (by omega), upd_ne (by omega), upd_ne (by omega), upd_ne (by omega)]; exact m.1 c hc
  · rw [u_ne (by omega), upd_ne (by omega)]; exact m.2.1 k hk
  · by_cases e : k = i * 6 + j
    · rw [e, u_eq, show 45 + (i * 6 + j) = 45 + (6 * i + j) by omega, upd_eq]
    · rw [u_at e, upd_ne (by omega)]; exact m.2.2.1 k hk
  · rw [u_ne (by omega), upd_ne (by omega)]; exact m.2.2.2.1
  · rw [u_ne (by omega), upd_ne (by omega)]; exact m.2.2.2.2
theorem c_setCool {i j : Nat} {u : Int32} {x : ro} {Q : ac_m → Prop} {s : ac_m} (hi : i < 6) (hj : j < 6) (m : rM s 42 x) (h : ∀ s', (∀ y, y ≠ 47 → s' y = s y) → rM s' 42 (upd x (45 + (6 * i + j)) u) → Q s') : w_X5_setCoolness 42 (nI i) (nI j) u Q s := by
  have e6 : nI i * 6 + nI j = nI (i * 6 + j) := by rw [show (6 : Int32) = nI 6 from rfl, nI_mul, nI_add]
  unfold w_X5_setCoolness
  rw [e6, cl_nI (by omega)]
  exact ⟨fun z => absurd z (nI_pos (by omega)), fun _ => ⟨fun z => absurd z (nI_ge (b := 6) hi (by omega)), fun _ => ⟨fun z => absurd z (nI_pos (by omega)), fun _ => ⟨fun z => absurd z (nI_ge (b := 6) hj (by omega)), fun _ => ⟨vp_in_nI (by omega) (by omega), h _ (fun y hy => u_ne hy) (rM_ck m hi hj)⟩⟩⟩⟩⟩
theorem m_cools {i j : Nat} {Q : ac_m → Prop} {s : ac_m} (hi : i < 6) (hj : j < 6) (h : ∀ s', (∀ y, y ≠ 556 → s' y = s y) → s' 556 = upd (s 556) (45 + (6 * i + j)) (lss 9 (s 556 (45 + (6 * i + j)) + 1)) → Q s') : w_X12_cools 556 (nI i) (nI j) Q s := by
  have e6 : (45 : Int32) + 6 * nI i + nI j = nI (45 + (6 * i + j)) := by rw [show (6 : Int32) = nI 6 from rfl, show (45 : Int32) = nI 45 from rfl, nI_mul, nI_add, nI_add, Nat.add_assoc]
  unfold w_X12_cools
  rw [e6, cl_nI (by omega)]
  exact ⟨vp_in_nI (by omega) (by omega), m_less ⟨vp_in_nI (by omega) (by omega), h _ (fun y hy => u_ne hy) u_row'⟩⟩
theorem wk_kill {s0 : ac_m} {F B j : Nat} {b : Int32} {x : ro} (i : wkI s0 F B) (hj : j < B) (v : wkX F B x) : wkE s0 F B 2 (nI j) b x := by
  have hB := i.2.2.2.2.2
  have hF := i.2.2.2.2.1
  obtain ⟨e1, e2, e3, e4, d, e, hd, he, de, ed, ee, w1, w2⟩ := wk_b i hj
  have v13 : vp_in (nI j) 13 := vp_in_nI (by omega) (by omega)
  by_cases c : x j ≤ 0
  · refine ⟨x, 0, .inl rfl, v, fun Q s f m h => ?_, fun Q s row f ex k0 k1 k2 h => ?_⟩
    · refine ⟨fun z => absurd z (by decide), fun z => absurd z (by decide), fun _ => ?_, fun z => absurd z (by decide), fun z => absurd z (by decide), fun z => absurd rfl z.2.2.1⟩
      unfold w_X5_slay
      exact c_isT m (by omega) (fun _ => m_if0A ⟨bo_0, h s (fun _ _ _ _ => rfl) m⟩) (fun z => absurd c z)
    · unfold w_X12_does
      have z0 : (0 : Int32).toNatClampNeg = 0 := rfl
      have z1 : (1 : Int32).toNatClampNeg = 1 := rfl
      rw [z0, k0, z1, k1 (by decide)]
      exact ⟨fun z => absurd z (by decide), fun z => absurd z (by decide), fun _ => m_asks (by omega) (fun _ => m_if0A (h s (fun _ _ _ _ _ => rfl) ex)) (fun z => absurd (by rw [ex]; exact c) z), fun z => absurd z (by decide), fun z => absurd z (by decide), fun z => absurd rfl z.2.2.1⟩
  · have vl := wkX_lv (show j < 13 by omega) v
    have sy := vl.1.2.2.1 d e (by omega) (by omega)
    refine ⟨ck (lv x j) d e, 1, .inr rfl, wkX_ck hF hd he de vl, fun Q s f m h => ?_, fun Q s row f ex k0 k1 k2 h => ?_⟩
    · refine ⟨fun z => absurd z (by decide), fun z => absurd z (by decide), fun _ => ?_, fun z => absurd z (by decide), fun z => absurd z (by decide), fun z => absurd rfl z.2.2.1⟩
      unfold w_X5_slay
      refine c_isT m (by omega) (fun z => absurd z c) (fun _ => m_if1A (c_remove (by omega) ?_))
      have m1 : rM (ac_u (ac_u (ac_u s (42 + 2) j 0) (42 + 3) j (-1)) (42 + 4) j 0) 42 (lv x j) := rM_3 (by omega) m
      have f1 : ∀ y, (y < 42 ∨ 49 < y) → (ac_u (ac_u (ac_u s (42 + 2) j 0) (42 + 3) j (-1)) (42 + 4) j 0) y = s y := fun y hy => by rw [u_ne (by omega), u_ne (by omega), u_ne (by omega)]
      revert m1 f1
      generalize ac_u (ac_u (ac_u s (42 + 2) j 0) (42 + 3) j (-1)) (42 + 4) j 0 = s1
      intro m1 f1
      have I := SF_I i f
      have hC : s1 3 11 = nI B := by rw [f1 3 (by omega), I.1.2.1.2.1]; exact I.2.2.2.1
      have g6 : s1 6 j = nI d := by rw [f1 6 (by omega), f.1 6 (by unfold wkSt; omega)]; exact ed
      have g7 : s1 7 j = nI e := by rw [f1 7 (by omega), f.1 7 (by unfold wkSt; omega)]; exact ee
      show w_X3_doerOf (nI j) _ s1
      unfold w_X3_doerOf
      refine c_hasBeast hC hB hj (m_if1B ⟨v13, ?_⟩)
      rw [cl_nI (by omega), g6]
      unfold w_X3_receiverOf
      refine c_hasBeast hC hB hj (m_if1B ⟨v13, ?_⟩)
      rw [cl_nI (by omega), g7]
      show w_X5_makeCooler 42 (nI d) (nI e) _ s1
      unfold w_X5_makeCooler w_X5_coolness
      have e6 : nI d * 6 + nI e = nI (d * 6 + e) := by rw [show (6 : Int32) = nI 6 from rfl, nI_mul, nI_add]
      rw [e6, cl_nI (by omega)]
      refine ⟨fun z => absurd z (nI_pos (by omega)), fun _ => ⟨fun z => absurd z (nI_ge (b := 6) (by omega) (by omega)), fun _ => ⟨fun z => absurd z (nI_pos (by omega)), fun _ => ⟨fun _ => ⟨vp_in_nI (by omega) (by omega), ?_⟩, fun z => absurd (nI_lt (b := 6) (by omega) (by omega)) z⟩⟩⟩⟩
      intro y hy
      rw [← lss_lt, m1.2.2.1 (d * 6 + e) (by omega), show 45 + (d * 6 + e) = 45 + (6 * d + e) by omega] at hy
      rw [hy]
      refine c_setCool (by omega) (by omega) m1 (fun s2 f2 m2 => ?_)
      refine c_setCool (by omega) (by omega) m2 (fun s3 f3 m3 => ⟨bo_1, h s3 (fun y _ _ y3 => ?_) m3⟩)
      rw [f3 y (by omega), f2 y (by omega), f1 y y3]
    · unfold w_X12_does
      have z0 : (0 : Int32).toNatClampNeg = 0 := rfl
      have z1 : (1 : Int32).toNatClampNeg = 1 := rfl
      rw [z0, k0, z1, k1 (by decide), cl_nI (by omega)]
      refine ⟨fun z => absurd z (by decide), fun z => absurd z (by decide), fun _ => m_asks (by omega) (fun z => absurd (by rw [ex] at z; exact z) c) (fun _ s1 g1 e1' => m_if1A ⟨v13, v13, ?_⟩), fun z => absurd z (by decide), fun z => absurd z (by decide), fun z => absurd rfl z.2.2.1⟩
      have g102 : s1 (102 + j) 0 = nI d ∧ s1 (102 + j) 1 = nI e := by
        rw [g1 _ (by omega), f.1 (102 + j) (by unfold wkSt; omega), ← e1, ← e2]; exact ⟨ed, ee⟩
      rw [g102.1, g102.2]
      refine m_cools (by omega) (by omega) (fun s2 g2 e2' => ⟨v13, v13, ?_⟩)
      rw [g2 (102 + j) (by omega), g102.1, g102.2]
      refine m_cools (by omega) (by omega) (fun s3 g3 e3' => h s3 (fun y _ _ _ y4 => by rw [g3 y y4, g2 y y4, g1 y y4]) ?_)
      rw [e3', e2', e1', ex]
      unfold ck
      rw [upd_ne (show 45 + (6 * e + d) ≠ 45 + (6 * d + e) by omega), ← sy.1]
theorem wk_step {s0 : ac_m} {F B : Nat} {k a b : Int32} {x : ro} (i : wkI s0 F B) (ok : wkOK F B k a b) (h6 : k ≠ 6) (v : wkX F B x) : wkE s0 F B k a b x := by
  rcases ok with ⟨h, j, hj, rfl⟩ | ⟨rfl, ⟨j, hj, rfl⟩, g, hg, rfl⟩ | ⟨rfl, ⟨g, hg, rfl⟩, m, hm, rfl⟩ | rfl | ⟨rfl, _⟩
  · rcases h with rfl | rfl | rfl
    · exact wk_ask i hj v
    · exact wk_kill i hj v
    · exact wk_do i hj v
  · exact wk_drive i hj hg v
  · exact wk_hay i hg hm v
  · exact wk_day i v
  · exact absurd rfl h6
