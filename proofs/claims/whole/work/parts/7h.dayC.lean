/-! A DAY OF THE CLASS -/
/-- the meadow at a is this row -/
def rM (s : ac_m) (a : Nat) (x : ro) : Prop :=
  (∀ b, b < 13 → s (a + 2) b = x b ∧ s (a + 4) b = x (13 + b) ∧ s (a + 3) b = x (26 + b)) ∧ (∀ f, f < 6 → s (a + 1) f = x (39 + f)) ∧ (∀ k, k < 36 → s (a + 5) k = x (45 + k)) ∧ s a 11 = x 81 ∧ s a 10 = x 82
theorem rM_cong {s : ac_m} {a : Nat} {x y : ro} (m : rM s a x) (h : ∀ j, j < 83 → x j = y j) : rM s a y := by
  refine ⟨fun b hb => ?_, fun f hf => ?_, fun k hk => ?_, ?_, ?_⟩
  · rw [← h b (by omega), ← h (13 + b) (by omega), ← h (26 + b) (by omega)]; exact m.1 b hb
  · rw [← h (39 + f) (by omega)]; exact m.2.1 f hf
  · rw [← h (45 + k) (by omega)]; exact m.2.2.1 k hk
  · rw [← h 81 (by omega)]; exact m.2.2.2.1
  · rw [← h 82 (by omega)]; exact m.2.2.2.2
/-- what both were told of the beasts that are there, and of the growth -/
def hB2 (s : ac_m) (x : ro) : Prop := ∀ b, b < 12 → ¬ x b ≤ 0 → s 6 b = s (102 + b) 0 ∧ s 7 b = s (102 + b) 1 ∧ s 8 b = s (102 + b) 2 ∧ (∃ d e, d < 6 ∧ e < 6 ∧ s 6 b = nI d ∧ s 7 b = nI e)
def hG (s : ac_m) (F : Nat) : Prop := ∀ f, f < 6 → (f < F → s 5 f = s (82 + f) 1 ∧ 0 ≤ s (82 + f) 1 ∧ s (82 + f) 1 ≤ 9) ∧ (F ≤ f → s 5 f = 0)
theorem vC_of {s : ac_m} {a F : Nat} {x : ro} (hf : F ≤ 6) (m : rM s a x) (v : vN (nI F) x) (hb : hB2 s x) : vC s a := by
  intro k hk hz
  have mk := m.1 k hk
  rw [mk.1] at hz
  obtain ⟨-, -, f, hf', e⟩ := vN_on hf v hk hz
  exact ⟨⟨f, by omega, mk.2.2.trans e⟩, fun h => (hb k h hz).2.2.2⟩
theorem ap_eq2 {s : ac_m} {a F : Nat} {x : ro} (hf : F ≤ 6) (m : rM s a x) (v : vN (nI F) x) (hb : hB2 s x) (h12 : ¬ x 12 ≤ 0 → s a 9 = s 114 2) {k : Nat} (hk : k < 13) : apC s a k = apX s x k := by
  have mk := m.1 k hk
  unfold apC apX
  rw [mk.1]
  by_cases hz : x k ≤ 0
  · rw [if_pos hz, if_pos hz]
  · obtain ⟨-, -, f, hf', e⟩ := vN_on hf v hk hz
    have ec : cnC s a (nI f) 13 = cn x (nI f) 13 := by
      unfold cnC cn
      refine sm_cong (fun j hj => ?_)
      have mj := m.1 j hj
      have w := v.1 j hj
      have p0 := nI_pos' (n := f) (by omega)
      rw [mj.2.2]
      grind
    rw [if_neg hz, if_neg hz, mk.2.1, mk.2.2, e, ec, cl_nI (by omega), m.2.1 f (by omega), m.2.2.2.2]
    by_cases k12 : k = 12
    · subst k12
      rw [if_pos rfl, if_pos rfl, if_pos rfl, h12 hz]
    · obtain ⟨h1, h2, h3, d, e', hd, he, ed, ee⟩ := hb k (by omega) hz
      rw [if_neg k12, if_neg k12, if_neg k12, ← h1, ← h2, ← h3, ed, ee, cl_nI (by omega), cl_nI (by omega), m.2.2.1 _ (by omega)]
theorem c_remove {a b : Nat} {Q : ac_m → Prop} {s : ac_m} (hb : b < 13) (h : Q (ac_u (ac_u (ac_u s (a + 2) b 0) (a + 3) b (-1)) (a + 4) b 0)) : w_X5_remove a (nI b) Q s := by
  have v13 : vp_in (nI b) 13 := vp_in_nI (by omega) (by omega)
  unfold w_X5_remove
  rw [cl_nI (by omega)]
  exact ⟨fun z => absurd z (nI_pos (by omega)), fun _ => ⟨fun z => absurd z (nI_ge (b := 13) hb (by omega)), fun _ => ⟨v13, v13, v13, h⟩⟩⟩
theorem c_graze {a k f : Nat} {Q : ac_m → Prop} {s : ac_m} {w : Int32} (hk : k < 13) (hf : f < 6) (ef : s (a + 3) k = nI f) (ew : w = s (a + 2) k - (s (a + 7) k - lss (s (a + 7) k) (s (a + 1) f)))
    (h : ∀ s', (∀ y, y ≠ a → y ≠ a + 1 → y ≠ a + 2 → y ≠ a + 3 → y ≠ a + 4 → s' y = s y) → (∀ j, j ≠ 11 → s' a j = s a j) → s' a 11 = (if 0 < w then s a 11 else s a 11 + 1) → s' (a + 1) = upd (s (a + 1)) f (s (a + 1) f - lss (s (a + 7) k) (s (a + 1) f))
      → (∀ j, s' (a + 2) j = if j = k then (if 0 < w then w else 0) else s (a + 2) j) → (∀ j, s' (a + 3) j = if 0 < w then s (a + 3) j else if j = k then -1 else s (a + 3) j) → (∀ j, s' (a + 4) j = if j = k then (if 0 < w then s (a + 4) k + 1 else 0) else s (a + 4) j) → Q s') : w_X5_graze a (nI k) Q s := by
  have v13 : vp_in (nI k) 13 := vp_in_nI (by omega) (by omega)
  have v6 : vp_in (nI f) 6 := vp_in_nI (by omega) (by omega)
  have c0 := cl_nI (n := k) (by omega)
  have cf := cl_nI (n := f) (by omega)
  unfold w_X5_graze
  rw [c0, ef, cf]
  refine ⟨fun z => absurd z (nI_pos (by omega)), fun _ => ⟨fun _ => ⟨v13, fun z => absurd z (nI_pos (by omega)), fun _ => ⟨fun _ => ⟨v13, v6, fun y hy => ⟨v6, v6, v13, v13, v13, v13, v13, v13, ?_⟩⟩, fun z => absurd (nI_lt (b := 6) hf (by omega)) z⟩⟩, fun z => absurd (nI_lt (b := 13) hk (by omega)) z⟩⟩
  have ey : y = lss (s (a + 7) k) (s (a + 1) f) := by
    rw [hy]; unfold lss; grind
  rw [← ey] at ew h
  have n1 : a + 2 ≠ a + 1 := by omega
  have n2 : a + 7 ≠ a + 1 := by omega
  have n3 : a + 2 ≠ a + 4 := by omega
  have n4 : a + 4 ≠ a + 2 := by omega
  have n5 : a + 4 ≠ a + 1 := by omega
  simp only [u_ne n1, u_ne n2, u_ne n3, u_ne n4, u_ne n5, u_eq]
  rw [← ew]
  refine ⟨fun z => ?_, fun z => c_remove hk ?_⟩
  · simp only [if_pos z] at h
    refine h _ (fun y y1 y2 y3 y4 y5 => ?_) (fun j hj => ?_) ?_ ?_ (fun j => ?_) (fun j => ?_) (fun j => ?_)
    · rw [u_ne y5, u_ne y3, u_ne y2]
    · rw [u_ne (by omega), u_ne (by omega), u_ne (by omega)]
    · rw [u_ne (by omega), u_ne (by omega), u_ne (by omega)]
    · rw [u_ne (by omega), u_ne (by omega), u_row']
    · rw [u_ne (by omega), u_row', u_ne (by omega)]; rfl
    · rw [u_ne (by omega), u_ne (by omega), u_ne (by omega)]
    · rw [u_row', u_ne (by omega), u_ne (by omega)]; rfl
  · simp only [if_neg z] at h
    refine h _ (fun y y1 y2 y3 y4 y5 => ?_) (fun j hj => ?_) ?_ ?_ (fun j => ?_) (fun j => ?_) (fun j => ?_)
    · rw [u_ne y1, u_ne y5, u_ne y4, u_ne y3, u_ne y5, u_ne y3, u_ne y2]
    · rw [u_at hj, u_ne (by omega), u_ne (by omega), u_ne (by omega), u_ne (by omega), u_ne (by omega), u_ne (by omega)]
    · rw [u_eq, u_ne (by omega), u_ne (by omega), u_ne (by omega), u_ne (by omega), u_ne (by omega), u_ne (by omega)]
    · rw [u_ne (by omega), u_ne (by omega), u_ne (by omega), u_ne (by omega), u_ne (by omega), u_ne (by omega), u_row']
    · rw [u_ne (by omega), u_ne (by omega), u_ne (by omega), u_row', u_ne (by omega), u_row', u_ne (by omega)]
      unfold upd; grind
    · rw [u_ne (by omega), u_ne (by omega), u_row', u_ne (by omega), u_ne (by omega), u_ne (by omega), u_ne (by omega)]; rfl
    · rw [u_ne (by omega), u_row', u_ne (by omega), u_ne (by omega), u_row', u_ne (by omega), u_ne (by omega)]
      unfold upd; grind
/-- a beast grazes: the meadow stays the row -/
theorem rM_graze {s s' : ac_m} {a k f : Nat} {e X : ro} {w : Int32} (hk : k < 13) (hf : f < 6) (m : rM s a (agk X k)) (ef : X (26 + k) = nI f) (hz : ¬ X k ≤ 0) (e7 : s (a + 7) k = e k)
    (ew : w = s (a + 2) k - (s (a + 7) k - lss (s (a + 7) k) (s (a + 1) f)))
    (h0 : ∀ y, y ≠ a → y ≠ a + 1 → y ≠ a + 2 → y ≠ a + 3 → y ≠ a + 4 → s' y = s y) (h1 : ∀ j, j ≠ 11 → s' a j = s a j) (h2 : s' a 11 = (if 0 < w then s a 11 else s a 11 + 1)) (h3 : s' (a + 1) = upd (s (a + 1)) f (s (a + 1) f - lss (s (a + 7) k) (s (a + 1) f)))
    (h4 : ∀ j, s' (a + 2) j = if j = k then (if 0 < w then w else 0) else s (a + 2) j) (h5 : ∀ j, s' (a + 3) j = if 0 < w then s (a + 3) j else if j = k then -1 else s (a + 3) j) (h6 : ∀ j, s' (a + 4) j = if j = k then (if 0 < w then s (a + 4) k + 1 else 0) else s (a + 4) j) :
    rM s' a (agk (gz e X k) (k + 1)) := by
  have pt := gz_pt (e := e) hk hf hz ef
  have cf : (X (26 + k)).toNatClampNeg = f := by rw [ef]; exact cl_nI (by omega)
  have A : ∀ j, agk X k j = if 13 ≤ j ∧ j < 13 + k ∧ ¬ X (j - 13) ≤ 0 then X j + 1 else X j := fun j => agk_pt j (by omega)
  have A' : ∀ j, agk (gz e X k) (k + 1) j = if 13 ≤ j ∧ j < 13 + (k + 1) ∧ ¬ gz e X k (j - 13) ≤ 0 then gz e X k j + 1 else gz e X k j := fun j => agk_pt j (by omega)
  have mk := m.1 k hk
  have mf := m.2.1 f hf
  have g2 : s (a + 2) k = X k := by rw [mk.1, A, if_neg (by omega)]
  have g4 : s (a + 4) k = X (13 + k) := by rw [mk.2.1, A, if_neg (by omega)]
  have g1 : s (a + 1) f = X (39 + f) := by rw [mf, A, if_neg (by omega)]
  have eg : gt e X k = lss (s (a + 7) k) (s (a + 1) f) := by unfold gt lss; rw [cf, e7, g1]
  have ew' : X k - (e k - gt e X k) = w := by rw [ew, eg, g2, e7]
  rw [ew', eg, ← g1] at pt
  have P0 : ∀ b, b < 13 → b ≠ k → gz e X k b = X b := fun b hb hbk => by
    rw [pt b, if_neg (by omega), if_neg hbk, if_neg (show ¬ b = 13 + k by omega), if_neg (show ¬ b = 26 + k by omega), if_neg (show ¬ b = 81 by omega)]; split <;> rfl
  have P13 : ∀ b, b < 13 → b ≠ k → gz e X k (13 + b) = X (13 + b) := fun b hb hbk => by
    rw [pt (13 + b), if_neg (by omega), if_neg (show ¬ 13 + b = k by omega), if_neg (show ¬ 13 + b = 13 + k by omega), if_neg (show ¬ 13 + b = 26 + k by omega), if_neg (show ¬ 13 + b = 81 by omega)]; split <;> rfl
  have P26 : ∀ b, b < 13 → b ≠ k → gz e X k (26 + b) = X (26 + b) := fun b hb hbk => by
    rw [pt (26 + b), if_neg (by omega), if_neg (show ¬ 26 + b = k by omega), if_neg (show ¬ 26 + b = 13 + k by omega), if_neg (show ¬ 26 + b = 26 + k by omega), if_neg (show ¬ 26 + b = 81 by omega)]; split <;> rfl
  have K0 : gz e X k k = if 0 < w then w else 0 := by rw [pt k, if_neg (by omega), if_pos rfl]
  have K13 : gz e X k (13 + k) = if 0 < w then X (13 + k) else 0 := by rw [pt (13 + k), if_neg (by omega), if_neg (show ¬ 13 + k = k by omega), if_pos rfl]
  have K26 : gz e X k (26 + k) = if 0 < w then X (26 + k) else -1 := by rw [pt (26 + k), if_neg (by omega), if_neg (show ¬ 26 + k = k by omega), if_neg (show ¬ 26 + k = 13 + k by omega), if_pos rfl]
  refine ⟨fun b hb => ?_, fun c hc => ?_, fun c hc => ?_, ?_, ?_⟩
  · have mb := m.1 b hb
    rw [A b, if_neg (by omega), A (13 + b), A (26 + b), if_neg (show ¬ (13 ≤ 26 + b ∧ 26 + b < 13 + k ∧ _) by omega), show 13 + b - 13 = b by omega] at mb
    rw [h4 b, h6 b, h5 b, A' b, if_neg (show ¬ (13 ≤ b ∧ _) by omega), A' (13 + b), A' (26 + b), if_neg (show ¬ (13 ≤ 26 + b ∧ 26 + b < 13 + (k + 1) ∧ _) by omega), show 13 + b - 13 = b by omega]
    by_cases eb : b = k
    · subst eb
      rw [if_pos rfl, if_pos rfl, K0, K13, K26]
      by_cases c : 0 < w
      · simp only [if_pos c]
        rw [if_pos ⟨by omega, by omega, by grind⟩, g4]
        refine ⟨?_, ?_, ?_⟩ <;> first | trivial | rfl | exact mb.2.2
      · simp only [if_neg c]
        rw [if_neg (fun z => z.2.2 (by decide))]
        refine ⟨?_, ?_, ?_⟩ <;> first | trivial | rfl | simp
    · rw [if_neg eb, if_neg eb, P0 b hb eb, P13 b hb eb, P26 b hb eb, mb.1, mb.2.1]
      refine ⟨rfl, ?_, ?_⟩
      · by_cases c : 13 ≤ 13 + b ∧ 13 + b < 13 + k ∧ ¬ X b ≤ 0
        · rw [if_pos c, if_pos ⟨c.1, by omega, c.2.2⟩]
        · rw [if_neg c, if_neg (fun z => c ⟨z.1, by omega, z.2.2⟩)]
      · by_cases c : 0 < w
        · rw [if_pos c]; exact mb.2.2
        · rw [if_neg c, if_neg eb]; exact mb.2.2
  · have mc := m.2.1 c hc
    rw [A (39 + c), if_neg (by omega)] at mc
    rw [h3, A' (39 + c), if_neg (show ¬ (13 ≤ 39 + c ∧ 39 + c < 13 + (k + 1) ∧ _) by omega), pt (39 + c)]
    by_cases e1 : c = f
    · subst e1; rw [upd_eq, if_pos rfl]
    · rw [upd_ne e1, if_neg (by omega), if_neg (by omega), if_neg (show ¬ 39 + c = 13 + k by omega), if_neg (show ¬ 39 + c = 26 + k by omega), if_neg (show ¬ 39 + c = 81 by omega), mc]; split <;> rfl
  · have mc := m.2.2.1 c hc
    rw [A (45 + c), if_neg (by omega)] at mc
    rw [h0 (a + 5) (by omega) (by omega) (by omega) (by omega) (by omega), A' (45 + c), if_neg (show ¬ (13 ≤ 45 + c ∧ 45 + c < 13 + (k + 1) ∧ _) by omega), pt (45 + c), if_neg (by omega), if_neg (by omega), if_neg (show ¬ 45 + c = 13 + k by omega), if_neg (show ¬ 45 + c = 26 + k by omega), if_neg (show ¬ 45 + c = 81 by omega), mc]; split <;> rfl
  · have mc := m.2.2.2.1
    rw [A 81, if_neg (by omega)] at mc
    rw [h2, A' 81, if_neg (show ¬ (13 ≤ 81 ∧ 81 < 13 + (k + 1) ∧ _) by omega), pt 81, if_neg (show ¬ 81 = 39 + f by omega), if_neg (show ¬ 81 = k by omega), if_neg (show ¬ 81 = 13 + k by omega), if_neg (show ¬ 81 = 26 + k by omega), if_pos rfl, mc]
  · have mc := m.2.2.2.2
    rw [A 82, if_neg (by omega)] at mc
    rw [h1 10 (by omega), A' 82, if_neg (show ¬ (13 ≤ 82 ∧ 82 < 13 + (k + 1) ∧ _) by omega), pt 82, if_neg (by omega), if_neg (by omega), if_neg (show ¬ 82 = 13 + k by omega), if_neg (show ¬ 82 = 26 + k by omega), if_neg (show ¬ 82 = 81 by omega), mc]; split <;> rfl
theorem c_passDay {a F : Nat} {x : ro} {Q : ac_m → Prop} {s : ac_m} (i : iL s) (ha : 30 ≤ a) (ha2 : a ≤ 50) (hf : F ≤ 6) (m : rM s a x) (v : vN (nI F) x) (hb : hB2 s x) (hg : hG s F) (h12 : ¬ x 12 ≤ 0 → s a 9 = s 114 2)
    (h : ∀ s', (∀ y, y ≠ 27 → y ≠ 28 → (y < a ∨ a + 7 < y) → s' y = s y) → s' a 9 = s a 9 → rM s' a (dyF s F x) → Q s') : w_X5_passDay a Q s := by
  unfold w_X5_passDay
  refine c_reckonAll i ha ha2 (vC_of hf m v hb) (fun s1 f1 g1 => ?_)
  unfold l_X5_passDay_6
  intro P hP
  have m1 : rM s1 a x := by
    refine ⟨fun b hb => ?_, fun f hf => ?_, fun k hk => ?_, ?_, ?_⟩
    · rw [f1 (a + 2) (by omega) (by omega) (by omega) (by omega), f1 (a + 4) (by omega) (by omega) (by omega) (by omega), f1 (a + 3) (by omega) (by omega) (by omega) (by omega)]; exact m.1 b hb
    · rw [f1 (a + 1) (by omega) (by omega) (by omega) (by omega)]; exact m.2.1 f hf
    · rw [f1 (a + 5) (by omega) (by omega) (by omega) (by omega)]; exact m.2.2.1 k hk
    · rw [f1 a (by omega) (by omega) (by omega) (by omega)]; exact m.2.2.2.1
    · rw [f1 a (by omega) (by omega) (by omega) (by omega)]; exact m.2.2.2.2
  refine loopUp (P := fun k => ∀ s', (∀ y, y ≠ 27 → y ≠ 28 → (y < a ∨ a + 7 < y) → s' y = s y) → s' a 9 = s a 9 → (∀ j, j < 13 → s' (a + 7) j = apX s x j) → rM s' a (agk (gzs (apX s x) x k) k) → P (nI k) s') 13 ?_ ?_ s1 (fun y y1 y2 y3 => f1 y y1 y2 (by omega) (by omega)) (by rw [f1 a (by omega) (by omega) (by omega) (by omega)]) (fun j hj => (g1 j hj).trans (ap_eq2 hf m v hb h12 hj)) m1
  rotate_left
  · intro k hk ih s' f f9 g mm
    have vX := vN_gzs (k := k) hf v (fun b _ => apX_bd s x b) (by omega)
    have mk := mm.1 k hk
    rw [agk_pt k (by omega), if_neg (by omega), agk_pt (26 + k) (by omega), if_neg (by omega)] at mk
    refine hP _ _ ⟨fun z => absurd z (nI_ge (b := 13) hk (by omega)), fun _ => ⟨vp_in_nI hk (by omega), ?_⟩⟩
    rw [cl_nI (by omega), mk.1, nI_1]
    refine ⟨fun z => ih s' f f9 g (rM_cong mm (fun j _ => ?_)), fun z => ?_⟩
    · have e0 : gzs (apX s x) x (k + 1) = gzs (apX s x) x k := by rw [gzs]; unfold gz; rw [if_pos z]
      rw [e0, agk_pt j (by omega), agk_pt j (by omega)]
      by_cases c : 13 ≤ j ∧ j < 13 + k ∧ ¬ gzs (apX s x) x k (j - 13) ≤ 0
      · rw [if_pos c, if_pos ⟨c.1, by omega, c.2.2⟩]
      · rw [if_neg c, if_neg (fun y => ?_)]
        have : j - 13 = k ∨ j < 13 + k := by omega
        rcases this with e | e
        · rw [e] at y; exact y.2.2 z
        · exact c ⟨y.1, e, y.2.2⟩
    · obtain ⟨w0, w1, q, hq, eq⟩ := vN_on hf vX hk z
      refine c_graze hk (show q < 6 by omega) (mk.2.2.trans eq) rfl (fun s4 k0 k1 k2 k3 k4 k5 k6 => ?_)
      refine ih s4 (fun y y1 y2 y3 => (k0 y (by omega) (by omega) (by omega) (by omega) (by omega)).trans (f y y1 y2 y3)) ((k1 9 (by omega)).trans f9) (fun j hj => by rw [k0 (a + 7) (by omega) (by omega) (by omega) (by omega) (by omega)]; exact g j hj) ?_
      rw [gzs]
      exact rM_graze hk (show q < 6 by omega) mm eq z (g k hk) rfl k0 k1 k2 k3 k4 k5 k6
  intro s2 f2 f29 g2 m2
  refine hP _ _ ⟨fun _ => ?_, fun z => absurd (by decide) z⟩
  unfold l_X5_passDay_34
  intro P2 hP2
  refine loopUp (P := fun k => ∀ s', (∀ y, y ≠ 27 → y ≠ 28 → (y < a ∨ a + 7 < y) → s' y = s y) → s' a 9 = s a 9 → rM s' a (gwk (s 5) (agk (gzs (apX s x) x 13) 13) k) → P2 (nI k) s') 6 ?_ ?_ s2 f2 f29 m2
  rotate_left
  · intro k hk ih s' f f9 mm
    have v6 : vp_in (nI k) 6 := vp_in_nI (by omega) (by omega)
    refine hP2 _ _ ⟨fun z => absurd z (nI_ge (b := 6) hk (by omega)), fun _ => ⟨v6, v6, v6, ?_⟩⟩
    rw [cl_nI (by omega), nI_1]
    refine ih _ (fun y y1 y2 y3 => by rw [u_ne (by omega)]; exact f y y1 y2 y3) (by rw [u_ne (by omega)]; exact f9) ?_
    rw [gwk, f 5 (by omega) (by omega) (by omega)]
    have mk := mm.2.1 k hk
    refine ⟨fun b hb => ?_, fun c hc => ?_, fun c hc => ?_, ?_, ?_⟩
    · rw [u_ne (by omega), u_ne (by omega), u_ne (by omega), upd_ne (by omega), upd_ne (by omega), upd_ne (by omega)]; exact mm.1 b hb
    · by_cases e : c = k
      · subst e
        rw [u_eq, upd_eq, mk]
        unfold lss
        grind
      · rw [u_at e, upd_ne (by omega)]; exact mm.2.1 c hc
    · rw [u_ne (by omega), upd_ne (by omega)]; exact mm.2.2.1 c hc
    · rw [u_ne (by omega), upd_ne (by omega)]; exact mm.2.2.2.1
    · rw [u_ne (by omega), upd_ne (by omega)]; exact mm.2.2.2.2
  intro s3 f3 f39 m3
  have vZ : vN (nI F) (agk (gzs (apX s x) x 13) 13) := vN_agk (vN_gzs hf v (fun b _ => apX_bd s x b) (by omega)) (by omega)
  have eW : ∀ j, j < 83 → gwk (s 5) (agk (gzs (apX s x) x 13) 13) 6 j = gwk (fun f => s (82 + f) 1) (agk (gzs (apX s x) x 13) 13) F j := by
    intro j _
    rw [gwk_pt, gwk_pt]
    by_cases c : 39 ≤ j ∧ j < 39 + 6
    · rw [if_pos c]
      have q := hg (j - 39) (by omega)
      by_cases c2 : j - 39 < F
      · rw [if_pos (by omega), (q.1 c2).1]
      · have vz := vZ.2.1 (j - 39) (by omega)
        rw [show 39 + (j - 39) = j by omega] at vz
        rw [if_neg (by omega), q.2 (by omega), vz.2.2 (nI_le (by omega) (by omega))]
        rfl
    · rw [if_neg c, if_neg (by omega)]
  refine hP2 _ _ ⟨fun _ => h _ (fun y y1 y2 y3 => by rw [u_ne (by omega)]; exact f3 y y1 y2 y3) (by rw [u_at (by omega)]; exact f39) ?_, fun z => absurd (by decide) z⟩
  have m4 := rM_cong m3 eW
  unfold dyF
  refine ⟨fun b hb => ?_, fun c hc => ?_, fun c hc => ?_, ?_, ?_⟩
  · rw [u_ne (by omega), u_ne (by omega), u_ne (by omega), upd_ne (by omega), upd_ne (by omega), upd_ne (by omega)]; exact m4.1 b hb
  · rw [u_ne (by omega), upd_ne (by omega)]; exact m4.2.1 c hc
  · rw [u_ne (by omega), upd_ne (by omega)]; exact m4.2.2.1 c hc
  · rw [u_at (by omega), upd_ne (by omega)]; exact m4.2.2.2.1
  · rw [u_eq, upd_eq, m4.2.2.2.2]
