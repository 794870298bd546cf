/-! OWING -/
def hv (o t v w : Int32) : Int32 := if o = 0 then (if t = 0 then v - w else -w) else 0
def bv (o t v w : Int32) : Int32 := if hv o t v w < hv (1 - o) t v w then 0 else 1
theorem c_hv {o t v w : Int32} {Q : Int32 → ac_m → Prop} {s : ac_m} (h : Q (hv o t v w) s) : w_X8_has o t v w Q s := by
  unfold hv at h
  unfold w_X8_has
  refine ⟨fun a => ⟨fun b => ?_, fun b => ?_⟩, fun a => ?_⟩
  · rw [if_pos a, if_neg b] at h; exact h
  · rw [if_pos a, if_pos b] at h; exact h
  · rw [if_neg a] at h; exact h
theorem m_hv {o t v w : Int32} {Q : Int32 → ac_m → Prop} {s : ac_m} (ho : o = 0 ∨ o = 1) (h : Q (hv o t v w) s) : w_X12_hasBy o t v w Q s := by
  unfold hv at h
  unfold w_X12_hasBy
  rcases ho with e | e <;> subst e
  · refine ⟨fun a => ⟨fun b => ?_, fun b => ?_⟩, fun a => absurd a (by decide)⟩
    · rw [if_pos rfl, if_neg b] at h; exact h
    · rw [if_pos rfl, if_pos b] at h; exact h
  · exact ⟨fun a => absurd rfl a, fun a => by rw [if_neg (by decide)] at h; exact h⟩
theorem c_rv {o t v w : Int32} {Q : Int32 → ac_m → Prop} {s : ac_m} (h : Q (if bv o t v w = 1 ∧ bv t o v w = 1 then 1 else 0) s) : w_X8_rests o t v w Q s := by
  unfold bv at h
  unfold w_X8_rests
  refine c_hv (c_hv ⟨fun a => ?_, fun a => c_hv (c_hv ⟨fun b => ?_, fun b => ?_⟩)⟩)
  · rw [if_pos a, if_neg (fun z => absurd z.1 (by decide))] at h; exact h
  · rw [if_neg a, if_pos b, if_neg (fun z => absurd z.2 (by decide))] at h; exact h
  · rw [if_neg a, if_neg b, if_pos ⟨rfl, rfl⟩] at h; exact h
theorem m_bv {o t v w : Int32} {Q : Int32 → ac_m → Prop} {s : ac_m} (ho : o = 0 ∨ o = 1) (h : Q (bv o t v w) s) : w_X12_isBest o t v w Q s := by
  unfold bv at h
  unfold w_X12_isBest
  refine m_hv ho (m_hv (by rcases ho with e | e <;> subst e <;> decide) ⟨fun a => ?_, fun a => ?_⟩)
  · rw [if_pos a] at h; exact h
  · rw [if_neg a] at h; exact h
theorem hv0 {t v w o : Int32} (e : ¬ o = 0) : hv o t v w = 0 := by unfold hv; rw [if_neg e]
theorem hv00 {v w o : Int32} (e : o = 0) : hv o 0 v w = v - w := by unfold hv; rw [if_pos e, if_pos rfl]
theorem hv01 {v w o : Int32} (e : o = 0) : hv o 1 v w = -w := by unfold hv; rw [if_pos e, if_neg (by decide)]
theorem bv00 {v w : Int32} (a0 : 0 ≤ v) (a9 : v ≤ 99) (b0 : 0 ≤ w) (b9 : w ≤ 99) : bv 0 0 v w = if w ≤ v then 1 else 0 := by
  unfold bv
  rw [hv00 rfl, hv0 (by decide)]
  by_cases c : w ≤ v
  · rw [if_pos c, if_neg (by grind)]
  · rw [if_neg c, if_pos (by grind)]
theorem bv01 {v w : Int32} (b0 : 0 ≤ w) (b9 : w ≤ 99) : bv 0 1 v w = if w = 0 then 1 else 0 := by
  unfold bv
  rw [hv01 rfl, hv0 (by decide)]
  by_cases c : w = 0
  · rw [if_pos c, if_neg (by grind)]
  · rw [if_neg c, if_pos (by grind)]
theorem bv10 {v w : Int32} (a0 : 0 ≤ v) (a9 : v ≤ 99) (b0 : 0 ≤ w) (b9 : w ≤ 99) : bv 1 0 v w = if v ≤ w then 1 else 0 := by
  unfold bv
  rw [hv0 (o := 1) (by decide), hv00 (by decide)]
  by_cases c : v ≤ w
  · rw [if_pos c, if_neg (by grind)]
  · rw [if_neg c, if_pos (by grind)]
theorem bv11 {v w : Int32} (b0 : 0 ≤ w) (b9 : w ≤ 99) : bv 1 1 v w = 1 := by
  unfold bv
  rw [hv0 (o := 1) (by decide), hv01 (by decide), if_neg (by grind)]
/-- how many rest: those of both, of one and the other, and of none -/
def r00 (v w : Int32) : Int32 := if bv 0 0 v w = 1 ∧ bv 0 0 v w = 1 then 1 else 0
def r01 (v w : Int32) : Int32 := if bv 0 1 v w = 1 ∧ bv 1 0 v w = 1 then 1 else 0
def r10 (v w : Int32) : Int32 := if bv 1 0 v w = 1 ∧ bv 0 1 v w = 1 then 1 else 0
def r11 (v w : Int32) : Int32 := if bv 1 1 v w = 1 ∧ bv 1 1 v w = 1 then 1 else 0
theorem rr_all {v w : Int32} (hv0 : 0 ≤ v) (hv9 : v ≤ 99) (hw0 : 0 ≤ w) (hw9 : w ≤ 99) :
    (w ≤ v ∧ r00 v w = 1 ∧ r01 v w = r10 v w ∧ (r01 v w = 0 ∨ r01 v w = 1) ∧ r11 v w = 1) ∨ (¬ w ≤ v ∧ r00 v w = 0 ∧ r01 v w = 0 ∧ r10 v w = 0 ∧ r11 v w = 1) := by
  have e00 := bv00 hv0 hv9 hw0 hw9
  have e01 := bv01 (v := v) hw0 hw9
  have e10 := bv10 hv0 hv9 hw0 hw9
  have e11 := bv11 (v := v) hw0 hw9
  unfold r00 r01 r10 r11
  rw [e00, e01, e10, e11]
  grind
theorem c_many {v w : Int32} {Q : Int32 → ac_m → Prop} {s : ac_m} (h : ∀ x, x = ((((0 + r00 v w) + r01 v w) + r10 v w) + r11 v w) → Q x s) : w_X8_restsMany v w Q s := by
  unfold w_X8_restsMany l_X8_restsMany_4
  intro P hP
  have st : ∀ (x c y : Int32), c = 0 ∨ c = 1 → P (x + c) y s → (c = 0 → P (x + 0) y s) ∧ (¬ c = 0 → P (x + 1) y s) := by
    intro x c y hc h
    rcases hc with e | e <;> subst e
    · exact m_if0B h
    · exact m_if1B h
  have b2 : ∀ {p : Prop} [Decidable p], (if p then (1 : Int32) else 0) = 0 ∨ (if p then (1 : Int32) else 0) = 1 := by
    intro p _
    by_cases c : p <;> simp [c]
  refine hP _ _ _ ⟨fun z => absurd z (by decide), fun _ => c_rv (st _ _ _ b2 ?_)⟩
  refine hP _ _ _ ⟨fun z => absurd z (by decide), fun _ => c_rv (st _ _ _ b2 ?_)⟩
  refine hP _ _ _ ⟨fun z => absurd z (by decide), fun _ => c_rv (st _ _ _ b2 ?_)⟩
  refine hP _ _ _ ⟨fun z => absurd z (by decide), fun _ => c_rv (st _ _ _ b2 ?_)⟩
  refine hP _ _ _ ⟨fun _ => h _ ?_, fun z => absurd (by decide) z⟩
  rfl
theorem c_first {v w : Int32} {Q : Int32 → ac_m → Prop} {s : ac_m} (hv0 : 0 ≤ v) (hv9 : v ≤ 99) (hw0 : 0 ≤ w) (hw9 : w ≤ 99) (h : Q (if w ≤ v then 0 else 11) s) : w_X8_firstRest v w Q s := by
  unfold w_X8_firstRest l_X8_firstRest_2
  intro P hP
  rcases rr_all hv0 hv9 hw0 hw9 with ⟨c, e0, -⟩ | ⟨c, e0, e1, e2, e3⟩
  · rw [if_pos c] at h
    refine hP _ _ ⟨fun z => absurd z (by decide), fun _ => c_rv ?_⟩
    have e0' : (if bv (0 / 2) (0 - 0 / 2 * 2) v w = 1 ∧ bv (0 - 0 / 2 * 2) (0 / 2) v w = 1 then (1 : Int32) else 0) = 1 := e0
    rw [e0']
    exact m_if1B h
  · rw [if_neg c] at h
    have e0' : (if bv (0 / 2) (0 - 0 / 2 * 2) v w = 1 ∧ bv (0 - 0 / 2 * 2) (0 / 2) v w = 1 then (1 : Int32) else 0) = 0 := e0
    have e1' : (if bv ((0 + 1) / 2) ((0 + 1) - (0 + 1) / 2 * 2) v w = 1 ∧ bv ((0 + 1) - (0 + 1) / 2 * 2) ((0 + 1) / 2) v w = 1 then (1 : Int32) else 0) = 0 := e1
    have e2' : (if bv ((0 + 1 + 1) / 2) ((0 + 1 + 1) - (0 + 1 + 1) / 2 * 2) v w = 1 ∧ bv ((0 + 1 + 1) - (0 + 1 + 1) / 2 * 2) ((0 + 1 + 1) / 2) v w = 1 then (1 : Int32) else 0) = 0 := e2
    have e3' : (if bv ((0 + 1 + 1 + 1) / 2) ((0 + 1 + 1 + 1) - (0 + 1 + 1 + 1) / 2 * 2) v w = 1 ∧ bv ((0 + 1 + 1 + 1) - (0 + 1 + 1 + 1) / 2 * 2) ((0 + 1 + 1 + 1) / 2) v w = 1 then (1 : Int32) else 0) = 1 := e3
    refine hP _ _ ⟨fun z => absurd z (by decide), fun _ => c_rv ?_⟩
    rw [e0']
    refine m_if0B (hP _ _ ⟨fun z => absurd z (by decide), fun _ => c_rv ?_⟩)
    rw [e1']
    refine m_if0B (hP _ _ ⟨fun z => absurd z (by decide), fun _ => c_rv ?_⟩)
    rw [e2']
    refine m_if0B (hP _ _ ⟨fun z => absurd z (by decide), fun _ => c_rv ?_⟩)
    rw [e3']
    exact m_if1B h
/-- one pair of the reference -/
theorem m_pair {a b v w x4 x5 x6 : Int32} {R : Int32 → Int32 → Int32 → ac_m → Prop} {s : ac_m} (ha : a = 0 ∨ a = 1) (hb : b = 0 ∨ b = 1)
    (h1 : bv a b v w = 1 ∧ bv b a v w = 1 → ¬ x4 = 0 → R (x4 + 1) x5 x6 s) (h2 : bv a b v w = 1 ∧ bv b a v w = 1 → x4 = 0 → R (x4 + 1) ((10 : Int32) * a + b) (hv a b v w + hv b a v w) s) (h0 : ¬ (bv a b v w = 1 ∧ bv b a v w = 1) → R x4 x5 x6 s) :
    w_X12_isBest a b v w (fun r83 s83 => (r83 = 0 → (R x4 x5 x6 s83)) ∧ (¬ r83 = 0 → (w_X12_isBest b a v w (fun r95 s95 => (¬ r95 = 0 → ((¬ x4 = 0 → ((¬ x4 = 0 → (R (x4 + (1 : Int32)) x5 x6 s95)) ∧ (x4 = 0 → (R (x4 + (1 : Int32)) (((10 : Int32) * a) + b) x6 s95)))) ∧ (x4 = 0 → (w_X12_hasBy a b v w (fun r115 s115 => w_X12_hasBy b a v w (fun r124 s124 => (¬ x4 = 0 → (R (x4 + (1 : Int32)) x5 (r115 + r124) s124)) ∧ (x4 = 0 → (R (x4 + (1 : Int32)) (((10 : Int32) * a) + b) (r115 + r124) s124))) s115) s95)))) ∧ (r95 = 0 → (R x4 x5 x6 s95))) s83))) s := by
  have b01 : ∀ o t, bv o t v w = 0 ∨ bv o t v w = 1 := by
    intro o t
    unfold bv
    by_cases c : hv o t v w < hv (1 - o) t v w
    · rw [if_pos c]; exact .inl rfl
    · rw [if_neg c]; exact .inr rfl
  refine m_bv ha ?_
  rcases b01 a b with e | e
  · rw [e]
    exact m_if0B (h0 (fun z => absurd (e.symm.trans z.1) (by decide)))
  · rw [e]
    refine m_if1B (m_bv hb ?_)
    rcases b01 b a with e2 | e2
    · rw [e2]
      exact m_if0A (h0 (fun z => absurd (e2.symm.trans z.2) (by decide)))
    · rw [e2]
      refine m_if1A ⟨fun z => ⟨fun _ => h1 ⟨e, e2⟩ z, fun y => absurd y z⟩, fun z => m_hv ha (m_hv hb ⟨fun y => absurd z y, fun _ => h2 ⟨e, e2⟩ z⟩)⟩
theorem rr_1 {p : Prop} [Decidable p] (h : (if p then (1 : Int32) else 0) = 1) : p := by
  by_cases c : p
  · exact c
  · rw [if_neg c] at h; exact absurd h (by decide)
theorem rr_0 {p : Prop} [Decidable p] (h : (if p then (1 : Int32) else 0) = 0) : ¬ p := by
  intro c
  rw [if_pos c] at h; exact absurd h (by decide)
theorem m_owL {v w q : Int32} {Q : Int32 → ac_m → Prop} {s : ac_m} (hv0 : 0 ≤ v) (hv9 : v ≤ 99) (hw0 : 0 ≤ w) (hw9 : w ≤ 99)
    (h0 : q = 0 → Q ((((0 + r00 v w) + r01 v w) + r10 v w) + r11 v w) s) (h1 : q = 1 → Q (if w ≤ v then 0 else 11) s) (h2 : ¬ q = 0 → ¬ q = 1 → Q (if w ≤ v then (v - w) + (v - w) else 0) s) :
    l_X12_owing_62 v w q Q v w q 0 (-1) 0 0 s := by
  have z0 : (0 : Int32) = 0 ∨ (0 : Int32) = 1 := .inl rfl
  have z1 : (0 + 1 : Int32) = 0 ∨ (0 + 1 : Int32) = 1 := .inr rfl
  unfold l_X12_owing_62
  intro P hP
  rcases rr_all hv0 hv9 hw0 hw9 with ⟨c, e0, e1, e2, e3⟩ | ⟨c, e0, e1, e2, e3⟩
  · rw [if_pos c] at h1 h2
    have k0 := rr_1 e0
    have k3 := rr_1 e3
    rcases e2 with e2 | e2
    · have k1 := rr_0 e2
      have k2 := rr_0 (e1.symm.trans e2)
      refine hP _ _ _ _ _ ⟨fun z => absurd z (by decide), fun _ => ?_⟩
      unfold l_X12_owing_71
      intro P2 hP2
      refine hP2 _ _ _ _ _ ⟨fun z => absurd z (by decide), fun _ => m_pair (R := fun a b c s => P2 a b c (0 + 1) s) z0 z0 (fun _ z => absurd rfl z) (fun _ _ => ?_) (fun z => absurd k0 z)⟩
      refine hP2 _ _ _ _ _ ⟨fun z => absurd z (by decide), fun _ => m_pair (R := fun a b c s => P2 a b c (0 + 1 + 1) s) z0 z1 (fun z _ => absurd z k1) (fun z _ => absurd z k1) (fun _ => ?_)⟩
      refine hP2 _ _ _ _ _ ⟨fun _ => ?_, fun z => absurd (by decide) z⟩
      refine hP _ _ _ _ _ ⟨fun z => absurd z (by decide), fun _ => ?_⟩
      unfold l_X12_owing_71
      intro P3 hP3
      refine hP3 _ _ _ _ _ ⟨fun z => absurd z (by decide), fun _ => m_pair (R := fun a b c s => P3 a b c (0 + 1) s) z1 z0 (fun z _ => absurd z k2) (fun z _ => absurd z k2) (fun _ => ?_)⟩
      refine hP3 _ _ _ _ _ ⟨fun z => absurd z (by decide), fun _ => m_pair (R := fun a b c s => P3 a b c (0 + 1 + 1) s) z1 z1 (fun _ z => ?_) (fun _ z => absurd z (by decide)) (fun z => absurd k3 z)⟩
      refine hP3 _ _ _ _ _ ⟨fun _ => ?_, fun z => absurd (by decide) z⟩
      refine hP _ _ _ _ _ ⟨fun _ => ⟨fun y => ⟨fun y1 => h2 y y1, fun y1 => h1 y1⟩, fun y => ?_⟩, fun z => absurd (by decide) z⟩
      have h0' := h0 y
      rw [e0, e2, ← e1, e2, e3] at h0'
      exact h0'
    · have k1 := rr_1 e2
      have k2 := rr_1 (e1.symm.trans e2)
      refine hP _ _ _ _ _ ⟨fun z => absurd z (by decide), fun _ => ?_⟩
      unfold l_X12_owing_71
      intro P2 hP2
      refine hP2 _ _ _ _ _ ⟨fun z => absurd z (by decide), fun _ => m_pair (R := fun a b c s => P2 a b c (0 + 1) s) z0 z0 (fun _ z => absurd rfl z) (fun _ _ => ?_) (fun z => absurd k0 z)⟩
      refine hP2 _ _ _ _ _ ⟨fun z => absurd z (by decide), fun _ => m_pair (R := fun a b c s => P2 a b c (0 + 1 + 1) s) z0 z1 (fun _ z => ?_) (fun _ z => absurd z (by decide)) (fun z => absurd k1 z)⟩
      refine hP2 _ _ _ _ _ ⟨fun _ => ?_, fun z => absurd (by decide) z⟩
      refine hP _ _ _ _ _ ⟨fun z => absurd z (by decide), fun _ => ?_⟩
      unfold l_X12_owing_71
      intro P3 hP3
      refine hP3 _ _ _ _ _ ⟨fun z => absurd z (by decide), fun _ => m_pair (R := fun a b c s => P3 a b c (0 + 1) s) z1 z0 (fun _ z => ?_) (fun _ z => absurd z (by decide)) (fun z => absurd k2 z)⟩
      refine hP3 _ _ _ _ _ ⟨fun z => absurd z (by decide), fun _ => m_pair (R := fun a b c s => P3 a b c (0 + 1 + 1) s) z1 z1 (fun _ z => ?_) (fun _ z => absurd z (by decide)) (fun z => absurd k3 z)⟩
      refine hP3 _ _ _ _ _ ⟨fun _ => ?_, fun z => absurd (by decide) z⟩
      refine hP _ _ _ _ _ ⟨fun _ => ⟨fun y => ⟨fun y1 => h2 y y1, fun y1 => h1 y1⟩, fun y => ?_⟩, fun z => absurd (by decide) z⟩
      have h0' := h0 y
      rw [e0, e2, ← e1, e2, e3] at h0'
      exact h0'
  · rw [if_neg c] at h1 h2
    have k0 := rr_0 e0
    have k1 := rr_0 e1
    have k2 := rr_0 e2
    have k3 := rr_1 e3
    refine hP _ _ _ _ _ ⟨fun z => absurd z (by decide), fun _ => ?_⟩
    unfold l_X12_owing_71
    intro P2 hP2
    refine hP2 _ _ _ _ _ ⟨fun z => absurd z (by decide), fun _ => m_pair (R := fun a b c s => P2 a b c (0 + 1) s) z0 z0 (fun z _ => absurd z k0) (fun z _ => absurd z k0) (fun _ => ?_)⟩
    refine hP2 _ _ _ _ _ ⟨fun z => absurd z (by decide), fun _ => m_pair (R := fun a b c s => P2 a b c (0 + 1 + 1) s) z0 z1 (fun z _ => absurd z k1) (fun z _ => absurd z k1) (fun _ => ?_)⟩
    refine hP2 _ _ _ _ _ ⟨fun _ => ?_, fun z => absurd (by decide) z⟩
    refine hP _ _ _ _ _ ⟨fun z => absurd z (by decide), fun _ => ?_⟩
    unfold l_X12_owing_71
    intro P3 hP3
    refine hP3 _ _ _ _ _ ⟨fun z => absurd z (by decide), fun _ => m_pair (R := fun a b c s => P3 a b c (0 + 1) s) z1 z0 (fun z _ => absurd z k2) (fun z _ => absurd z k2) (fun _ => ?_)⟩
    refine hP3 _ _ _ _ _ ⟨fun z => absurd z (by decide), fun _ => m_pair (R := fun a b c s => P3 a b c (0 + 1 + 1) s) z1 z1 (fun _ z => absurd rfl z) (fun _ z => ?_) (fun z => absurd k3 z)⟩
    refine hP3 _ _ _ _ _ ⟨fun _ => ?_, fun z => absurd (by decide) z⟩
    refine hP _ _ _ _ _ ⟨fun _ => ⟨fun y => ⟨fun y1 => h2 y y1, fun y1 => h1 y1⟩, fun y => ?_⟩, fun z => absurd (by decide) z⟩
    have h0' := h0 y
    rw [e0, e1, e2, e3] at h0'
    exact h0'
theorem s_owing (v w q : Int32) (s : ac_m) (i : Inv s) : simX thA (w_X11_owing v w q) (w_X12_owing v w q) s := by
  unfold simX w_X11_owing
  refine c_within (fun a0 b0 => ?_) (fun h => ?_)
  rotate_left
  · unfold w_X12_owing
    refine m_inB (fun a b => absurd ⟨a, b⟩ h) (fun _ => ?_)
    exact m_bad1 u_eq (by decide) in2_1 (m_if1B ⟨⟨rfl, bad_69⟩, Inv_bad1 i⟩)
  refine c_within (fun a1 b1 => ?_) (fun h => ?_)
  rotate_left
  · unfold w_X12_owing
    refine m_inB (fun _ _ => ?_) (fun z => absurd ⟨a0, b0⟩ z)
    refine m_inB (fun a b => absurd ⟨a, b⟩ h) (fun _ => ?_)
    exact m_bad1 u_eq (by decide) in2_1 (m_if1B ⟨⟨rfl, bad_69⟩, Inv_bad1 i⟩)
  refine c_within (fun a2 b2 => ?_) (fun h => ?_)
  rotate_left
  · unfold w_X12_owing
    refine m_inB (fun _ _ => ?_) (fun z => absurd ⟨a0, b0⟩ z)
    refine m_inB (fun _ _ => ?_) (fun z => absurd ⟨a1, b1⟩ z)
    refine m_inA (fun a b => absurd ⟨a, b⟩ h) (fun _ => ?_)
    exact m_bad1 u_eq (by decide) in2_1 (m_if1B ⟨⟨rfl, bad_69⟩, Inv_bad1 i⟩)
  have fin : ∀ x, (q = 0 → x = ((((0 + r00 v w) + r01 v w) + r10 v w) + r11 v w)) → (q = 1 → x = (if w ≤ v then 0 else 11)) → (¬ q = 0 → ¬ q = 1 → x = (if w ≤ v then (v - w) + (v - w) else 0)) → w_X12_owing v w q (fun b s2 => x = b ∧ s2 69 0 = 0 ∧ Inv s2) s := by
    intro x k0 k1 k2
    unfold w_X12_owing
    refine m_inB (fun _ _ => ?_) (fun z => absurd ⟨a0, b0⟩ z)
    refine m_inB (fun _ _ => ?_) (fun z => absurd ⟨a1, b1⟩ z)
    refine m_inA (fun _ _ => ?_) (fun z => absurd ⟨a2, b2⟩ z)
    refine m_bad0 u_eq (m_if0B ?_)
    exact m_owL a0 b0 a1 b1 (fun e => ⟨k0 e, u_eq, Inv_0 i⟩) (fun e => ⟨k1 e, u_eq, Inv_0 i⟩) (fun e e2 => ⟨k2 e e2, u_eq, Inv_0 i⟩)
  refine ⟨fun e => c_many (fun x hx => ?_), fun e => c_first a0 b0 a1 b1 ?_, fun e => c_first a0 b0 a1 b1 ?_⟩
  · exact fin x (fun _ => hx) (fun e2 => absurd (e.symm.trans e2) (by decide)) (fun e2 => absurd e e2)
  · exact fin _ (fun e2 => absurd (e.symm.trans e2) (by decide)) (fun _ => rfl) (fun _ e2 => absurd e e2)
  · have key : ∀ x, x = (if w ≤ v then (v - w) + (v - w) else 0) → w_X12_owing v w q (fun b s2 => x = b ∧ s2 69 0 = 0 ∧ Inv s2) s := fun x hx => fin x (fun e2 => absurd e2 e.1) (fun e2 => absurd e2 e.2) (fun _ _ => hx)
    unfold w_X8_togetherAt
    by_cases c : w ≤ v
    · rw [if_pos c] at key ⊢
      exact ⟨fun _ => c_hv (c_hv (key _ rfl)), fun z => absurd z (by decide)⟩
    · rw [if_neg c] at key ⊢
      exact ⟨fun _ => c_hv (c_hv (key _ rfl)), fun z => absurd z (by decide)⟩
