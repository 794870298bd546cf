/-! STEPS ON A ROW: a beast leaves, comes, is driven -/
def lv (x : ro) (b : Nat) : ro := upd (upd (upd x b 0) (13 + b) 0) (26 + b) (-1)
def cm (s : ac_m) (x : ro) (b : Nat) : ro := upd (upd (upd x b (s (102 + b) 3)) (13 + b) 0) (26 + b) (s (102 + b) 0)
def dv (x : ro) (b : Nat) (f : Int32) : ro := upd x (26 + b) f
theorem lv_pt {x : ro} {b : Nat} (hb : b < 13) (j : Nat) : lv x b j = if j = b then 0 else if j = 13 + b then 0 else if j = 26 + b then -1 else x j := by
  unfold lv upd
  by_cases e1 : j = b
  · rw [if_pos e1, if_pos e1, if_neg (by omega), if_neg (by omega)]
  · rw [if_neg e1, if_neg e1]
    by_cases e2 : j = 13 + b
    · rw [if_pos e2, if_pos e2, if_neg (by omega)]
    · rw [if_neg e2, if_neg e2]
theorem cm_pt {s : ac_m} {x : ro} {b : Nat} (hb : b < 13) (j : Nat) : cm s x b j = if j = b then s (102 + b) 3 else if j = 13 + b then 0 else if j = 26 + b then s (102 + b) 0 else x j := by
  unfold cm upd
  by_cases e1 : j = b
  · rw [if_pos e1, if_pos e1, if_neg (by omega), if_neg (by omega)]
  · rw [if_neg e1, if_neg e1]
    by_cases e2 : j = 13 + b
    · rw [if_pos e2, if_pos e2, if_neg (by omega)]
    · rw [if_neg e2, if_neg e2]
/-- three cells of a beast written on both sides -/
theorem rM_3 {s : ac_m} {a b : Nat} {x : ro} {v0 v1 v2 : Int32} (hb : b < 13) (m : rM s a x) : rM (ac_u (ac_u (ac_u s (a + 2) b v0) (a + 3) b v2) (a + 4) b v1) a (upd (upd (upd x b v0) (13 + b) v1) (26 + b) v2) := by
  refine ⟨fun c hc => ?_, fun f hf => ?_, fun k hk => ?_, ?_, ?_⟩
  · have q := m.1 c hc
    refine ⟨?_, ?_, ?_⟩
    · rw [u_ne (by omega), u_ne (by omega), upd_ne (by omega), upd_ne (by omega)]
      by_cases e : c = b
      · rw [e, u_eq, upd_eq]
      · rw [u_at e, upd_ne e]; exact q.1
    · rw [upd_ne (show 13 + c ≠ 26 + b by omega)]
      by_cases e : c = b
      · rw [e, u_eq, upd_eq]
      · rw [u_at e, u_ne (by omega), u_ne (by omega), upd_ne (by omega), upd_ne (by omega)]; exact q.2.1
    · rw [u_ne (by omega)]
      by_cases e : c = b
      · rw [e, u_eq, upd_eq]
      · rw [u_at e, u_ne (by omega), upd_ne (by omega), upd_ne (by omega), upd_ne (by omega)]; exact q.2.2
  · rw [u_ne (by omega), u_ne (by omega), u_ne (by omega), upd_ne (by omega), upd_ne (by omega), upd_ne (by omega)]; exact m.2.1 f hf
  · rw [u_ne (by omega), u_ne (by omega), u_ne (by omega), upd_ne (by omega), upd_ne (by omega), upd_ne (by omega)]; exact m.2.2.1 k hk
  · rw [u_ne (by omega), u_ne (by omega), u_ne (by omega), upd_ne (by omega), upd_ne (by omega), upd_ne (by omega)]; exact m.2.2.2.1
  · rw [u_ne (by omega), u_ne (by omega), u_ne (by omega), upd_ne (by omega), upd_ne (by omega), upd_ne (by omega)]; exact m.2.2.2.2
theorem c_isT {a k : Nat} {x : ro} {Q : Int32 → ac_m → Prop} {s : ac_m} (m : rM s a x) (hk : k < 13) (h0 : x k ≤ 0 → Q 0 s) (h1 : ¬ x k ≤ 0 → Q 1 s) : w_X5_isThere a (nI k) Q s :=
  c_isThere hk (fun z => h0 (by rw [(m.1 k hk).1] at z; exact z)) (fun z => h1 (by rw [(m.1 k hk).1] at z; exact z))
theorem c_ask {a b : Nat} {x : ro} {Q : Int32 → ac_m → Prop} {s : ac_m} (m : rM s a x) (hb : b < 13) (h0 : x b ≤ 0 → Q 0 s) (h1 : ¬ x b ≤ 0 → ∀ s', (∀ y, y ≠ a + 2 → y ≠ a + 3 → y ≠ a + 4 → s' y = s y) → rM s' a (lv x b) → Q 1 s') : w_X5_askBack a (nI b) Q s := by
  unfold w_X5_askBack
  refine c_isT m hb (fun z => m_if0A (h0 z)) (fun z => m_if1A (c_remove hb (h1 z _ (fun y y1 y2 y3 => ?_) (rM_3 hb m))))
  rw [u_ne y3, u_ne y2, u_ne y1]
theorem c_again {a b B : Nat} {x : ro} {Q : Int32 → ac_m → Prop} {s : ac_m} (ha : 30 ≤ a) (m : rM s a x) (hC : s 3 11 = nI B) (hB : B ≤ 12) (hb : b < B) (e3 : s 9 b = s (102 + b) 3) (e0 : s 6 b = s (102 + b) 0)
    (h0 : ¬ x b ≤ 0 → Q 0 s) (h1 : x b ≤ 0 → ∀ s', (∀ y, y ≠ a + 2 → y ≠ a + 3 → y ≠ a + 4 → s' y = s y) → rM s' a (cm s x b) → Q 1 s') : w_X5_doAgain a (nI b) Q s := by
  have v13 : vp_in (nI b) 13 := vp_in_nI (by omega) (by omega)
  unfold w_X5_doAgain
  refine c_hasBeast hC hB hb (m_if1B (c_isT m (by omega) (fun z => m_if0B ⟨v13, v13, v13, v13, v13, ?_⟩) (fun z => m_if1B (h0 z))))
  rw [cl_nI (by omega), u_ne (show 6 ≠ a + 2 by omega)]
  refine h1 z _ (fun y y1 y2 y3 => by rw [u_ne y3, u_ne y2, u_ne y1]) ?_
  unfold cm
  rw [← e3, ← e0]
  exact rM_3 (by omega) m
theorem rM_26 {s : ac_m} {a b : Nat} {x : ro} {f : Int32} (m : rM s a x) (hb : b < 13) : rM (ac_u s (a + 3) b f) a (dv x b f) := by
  unfold dv
  refine ⟨fun c hc => ?_, fun k hk => ?_, fun k hk => ?_, ?_, ?_⟩
  · have q := m.1 c hc
    rw [u_ne (by omega), u_ne (by omega), upd_ne (by omega), upd_ne (show 13 + c ≠ 26 + b by omega)]
    refine ⟨q.1, q.2.1, ?_⟩
    by_cases e : c = b
    · rw [e, u_eq, upd_eq]
    · rw [u_at e, upd_ne (by omega)]; exact q.2.2
  · rw [u_ne (by omega), upd_ne (by omega)]; exact m.2.1 k hk
  · rw [u_ne (by omega), upd_ne (by omega)]; exact m.2.2.1 k hk
  · rw [u_ne (by omega), upd_ne (by omega)]; exact m.2.2.2.1
  · rw [u_ne (by omega), upd_ne (by omega)]; exact m.2.2.2.2
theorem c_drive {a b f F : Nat} {x : ro} {Q : Int32 → ac_m → Prop} {s : ac_m} (m : rM s a x) (hD : s 3 10 = nI F) (hF : F ≤ 6) (hf : f < F) (hb : b < 13)
    (h0 : (x b ≤ 0 ∨ x (26 + b) = nI f) → Q 0 s) (h1 : ¬ (x b ≤ 0 ∨ x (26 + b) = nI f) → ∀ s', (∀ y, y ≠ a + 3 → s' y = s y) → rM s' a (dv x b (nI f)) → Q 1 s') : w_X5_driveOver a (nI b) (nI f) Q s := by
  have v13 : vp_in (nI b) 13 := vp_in_nI (by omega) (by omega)
  unfold w_X5_driveOver
  refine c_isT m hb (fun z => m_if0B (h0 (.inl z))) (fun z => m_if1B (c_hasFolk hD hF hf (m_if1B ⟨v13, fun y => ⟨v13, ?_⟩, fun y => h0 (.inr ?_)⟩)))
  · rw [cl_nI (by omega), (m.1 b hb).2.2] at y
    rw [cl_nI (by omega)]
    exact h1 (fun c => c.elim z y) _ (fun y hy => u_ne hy) (rM_26 m hb)
  · rw [cl_nI (by omega), (m.1 b hb).2.2] at y
    exact y
theorem m_asks {r b : Nat} {Q : Int32 → ac_m → Prop} {s : ac_m} (hb : b < 13) (h0 : s r b ≤ 0 → Q 0 s) (h1 : ¬ s r b ≤ 0 → ∀ s', (∀ y, y ≠ r → s' y = s y) → s' r = lv (s r) b → Q 1 s') : w_X12_asks r (nI b) Q s := by
  unfold w_X12_asks
  exact m_isTh hb (fun z => m_if0A (h0 z)) (fun z => m_if1A (m_leaves hb (fun s' f e => h1 z s' f e)))
theorem m_again {r b : Nat} {Q : Int32 → ac_m → Prop} {s : ac_m} (hb : b < 13) (hr : 200 < r) (h0 : ¬ s r b ≤ 0 → Q 0 s) (h1 : s r b ≤ 0 → ∀ s', (∀ y, y ≠ r → s' y = s y) → s' r = cm s (s r) b → Q 1 s') : w_X12_doesAgain r (nI b) Q s := by
  have f0 : (0 : Int32) + nI b = nI b := by rw [← nI_0, nI_add, Nat.zero_add]
  have f26 : (26 : Int32) + nI b = nI (26 + b) := nI_add 26 b
  have f13 : (13 : Int32) + nI b = nI (13 + b) := nI_add 13 b
  have v13 : vp_in (nI b) 13 := vp_in_nI (by omega) (by omega)
  unfold w_X12_doesAgain w_X12_comes
  refine m_isTh hb (fun z => m_if0B ?_) (fun z => m_if1B (h0 z))
  rw [f0, f13, f26, cl_nI (by omega), cl_nI (by omega), cl_nI (by omega)]
  refine ⟨v13, vp_in_nI (by omega) (by omega), vp_in_nI (by omega) (by omega), v13, vp_in_nI (by omega) (by omega), h1 z _ (fun y hy => by rw [u_ne hy, u_ne hy, u_ne hy]) ?_⟩
  rw [u_row', u_row', u_row', u_ne (by omega), u_ne (by omega)]
  rfl
theorem m_drives {r b : Nat} {f : Int32} {Q : Int32 → ac_m → Prop} {s : ac_m} (hb : b < 13) (h0 : (s r b ≤ 0 ∨ s r (26 + b) = f) → Q 0 s) (h1 : ¬ (s r b ≤ 0 ∨ s r (26 + b) = f) → ∀ s', (∀ y, y ≠ r → s' y = s y) → s' r = dv (s r) b f → Q 1 s') : w_X12_drives r (nI b) f Q s := by
  have f26 : (26 : Int32) + nI b = nI (26 + b) := nI_add 26 b
  have v26 : vp_in (nI (26 + b)) 83 := vp_in_nI (by omega) (by omega)
  unfold w_X12_drives
  rw [f26, cl_nI (by omega)]
  exact m_isTh hb (fun z => m_if0B (h0 (.inl z))) (fun z => m_if1B ⟨v26, fun y => ⟨v26, h1 (fun c => c.elim z y) _ (fun y hy => u_ne hy) u_row'⟩, fun y => h0 (.inr y)⟩)
/-! the rows that come of it can be -/
theorem vN_lv {F : Int32} {x : ro} {b : Nat} (hb : b < 13) (v : vN F x) : vN F (lv x b) := by
  refine ⟨fun c hc => ?_, fun f hf => ?_, fun i j hi hj => ?_⟩
  · have q := v.1 c hc
    rw [lv_pt hb c, lv_pt hb (13 + c), lv_pt hb (26 + c)]
    by_cases e : c = b
    · subst e
      rw [if_pos rfl, if_neg (by omega), if_pos rfl, if_neg (by omega), if_neg (by omega), if_pos rfl]
      exact .inl ⟨rfl, rfl, rfl⟩
    · rw [if_neg e, if_neg (by omega), if_neg (by omega), if_neg (by omega), if_neg (by omega), if_neg (by omega), if_neg (by omega), if_neg (by omega), if_neg (by omega)]
      exact q
  · rw [lv_pt hb, if_neg (by omega), if_neg (by omega), if_neg (by omega)]; exact v.2.1 f hf
  · rw [lv_pt hb, lv_pt hb, if_neg (by omega), if_neg (by omega), if_neg (by omega), if_neg (by omega), if_neg (by omega), if_neg (by omega)]; exact v.2.2 i j hi hj
theorem vN_cm {F : Int32} {s : ac_m} {x : ro} {b : Nat} (hb : b < 13) (v : vN F x) (w : 1 ≤ s (102 + b) 3 ∧ s (102 + b) 3 ≤ 30 ∧ 0 ≤ s (102 + b) 0 ∧ s (102 + b) 0 < F) : vN F (cm s x b) := by
  refine ⟨fun c hc => ?_, fun f hf => ?_, fun i j hi hj => ?_⟩
  · have q := v.1 c hc
    rw [cm_pt hb c, cm_pt hb (13 + c), cm_pt hb (26 + c)]
    by_cases e : c = b
    · subst e
      rw [if_pos rfl, if_neg (by omega), if_pos rfl, if_neg (by omega), if_neg (by omega), if_pos rfl]
      exact .inr w
    · rw [if_neg e, if_neg (by omega), if_neg (by omega), if_neg (by omega), if_neg (by omega), if_neg (by omega), if_neg (by omega), if_neg (by omega), if_neg (by omega)]
      exact q
  · rw [cm_pt hb, if_neg (by omega), if_neg (by omega), if_neg (by omega)]; exact v.2.1 f hf
  · rw [cm_pt hb, cm_pt hb, if_neg (by omega), if_neg (by omega), if_neg (by omega), if_neg (by omega), if_neg (by omega), if_neg (by omega)]; exact v.2.2 i j hi hj
theorem vN_dv {F : Int32} {x : ro} {b : Nat} {f : Int32} (hb : b < 13) (v : vN F x) (hz : ¬ x b ≤ 0) (h0 : 0 ≤ f) (h1 : f < F) : vN F (dv x b f) := by
  unfold dv
  refine ⟨fun c hc => ?_, fun f hf => ?_, fun i j hi hj => ?_⟩
  · have q := v.1 c hc
    rw [upd_ne (by omega), upd_ne (show 13 + c ≠ 26 + b by omega)]
    by_cases e : c = b
    · subst e
      rw [upd_eq]
      rcases q with q | q
      · exact absurd (by rw [q.1]; decide) hz
      · exact .inr ⟨q.1, q.2.1, h0, h1⟩
    · rw [upd_ne (by omega)]; exact q
  · rw [upd_ne (by omega)]; exact v.2.1 f hf
  · rw [upd_ne (by omega), upd_ne (by omega)]; exact v.2.2 i j hi hj
