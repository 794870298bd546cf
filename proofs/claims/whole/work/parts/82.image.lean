/-! IMAGES -/
theorem m_puts0 {r m : Nat} {v : Int32} {Q : Int32 → ac_m → Prop} {s : ac_m} (hr : r ≠ 69) (hm : m < 1412) (e : s 69 38 = nI m) (h : Q v (ac_u (ac_u s r m v) 69 38 (nI (m + 1)))) : w_X12_puts r v 0 Q s := by
  unfold w_X12_puts
  have n1 : (69 : Nat) ≠ r := fun z => hr z.symm
  have p1 : nI (m + 1) - (1 : Int32) = nI m := nI_pred m
  simp only [u_ne n1, e, nI_1, u_eq, p1, cl_nI (show m < 2147483648 by omega), u_ne hr]
  exact ⟨fun z => absurd trivial z, fun _ => ⟨vp_in_nI hm (by omega), vp_in_nI hm (by omega), h⟩⟩
theorem m_puts1 {r m : Nat} {v : Int32} {Q : Int32 → ac_m → Prop} {s : ac_m} (hr : r ≠ 69) (hm : m < 1412) (e : s 69 38 = nI m) (h : Q (s r m) (ac_u s 69 38 (nI (m + 1)))) : w_X12_puts r v 1 Q s := by
  unfold w_X12_puts
  have p1 : nI (m + 1) - (1 : Int32) = nI m := nI_pred m
  rw [e, nI_1, u_eq, p1, cl_nI (by omega), u_ne hr]
  exact ⟨fun _ => ⟨vp_in_nI hm (by omega), h⟩, fun z => absurd z (by decide)⟩
/-- what an image holds -/
def kt (s : ac_m) (j : Nat) : Int32 := if j = 0 then s 69 35 else if j < 84 then s 556 (j - 1) else s (560 + (j - 84) / 83) ((j - 84) % 83)
def pW (s : ac_m) (r m : Nat) (s' : ac_m) : Prop := (∀ y, y ≠ 69 → y ≠ r → s' y = s y) ∧ (∀ j, j ≠ 38 → s' 69 j = s 69 j) ∧ s' 69 38 = nI m ∧ (∀ j, j < m → s' r j = kt s j) ∧ (∀ j, m ≤ j → s' r j = s r j)
theorem pW_step {s s' : ac_m} {r m : Nat} {v : Int32} (hr : r ≠ 69) (h : pW s r m s') (hv : v = kt s m) : pW s r (m + 1) (ac_u (ac_u s' r m v) 69 38 (nI (m + 1))) := by
  obtain ⟨h1, h2, h3, h4, h5⟩ := h
  refine ⟨fun y y1 y2 => by rw [u_ne y1, u_ne y2]; exact h1 y y1 y2, fun j hj => by rw [u_at hj, u_ne (fun z => hr z.symm)]; exact h2 j hj, u_eq, fun j hj => ?_, fun j hj => ?_⟩
  · rw [u_ne hr]
    by_cases e : j = m
    · rw [e, u_eq, hv]
    · rw [u_at e]; exact h4 j (by omega)
  · rw [u_ne hr, u_at (by omega)]; exact h5 j (by omega)
theorem pW_same {s s' : ac_m} {r m q k : Nat} {v : Int32} (hq : q ≠ 69) (hqr : q ≠ r) (h : pW s r m s') (hv : s q k = v) : pW s r m (ac_u s' q k v) := by
  obtain ⟨h1, h2, h3, h4, h5⟩ := h
  have e69 : (ac_u s' q k v) 69 = s' 69 := u_ne (fun z => hq z.symm)
  have er : (ac_u s' q k v) r = s' r := u_ne (fun z => hqr z.symm)
  refine ⟨fun y y1 y2 => ?_, fun j hj => by rw [e69]; exact h2 j hj, by rw [e69]; exact h3, fun j hj => by rw [er]; exact h4 j hj, fun j hj => by rw [er]; exact h5 j hj⟩
  by_cases e : y = q
  · subst e
    rw [u_row', h1 y y1 y2]
    funext j
    unfold upd
    by_cases c : j = k
    · rw [if_pos c, c, hv]
    · rw [if_neg c]
  · rw [u_ne e]; exact h1 y y1 y2
theorem pW_35 {s s' : ac_m} {r m : Nat} {v : Int32} (hr : r ≠ 69) (h : pW s r m s') (hv : s 69 35 = v) : pW s r m (ac_u s' 69 35 v) := by
  obtain ⟨h1, h2, h3, h4, h5⟩ := h
  refine ⟨fun y y1 y2 => by rw [u_ne y1]; exact h1 y y1 y2, fun j hj => ?_, by rw [u_at (by omega)]; exact h3, fun j hj => by rw [u_ne hr]; exact h4 j hj, fun j hj => by rw [u_ne hr]; exact h5 j hj⟩
  by_cases c : j = 35
  · rw [c, u_eq, hv]
  · rw [u_at c]; exact h2 j hj
theorem m_putsW {r : Nat} {Q : ac_m → Prop} {s : ac_m} (hr : 577 ≤ r) (h : ∀ s', pW s r 1412 s' → Q s') : w_X12_putsAll r 0 Q s := by
  have hr69 : r ≠ 69 := by omega
  have p0 : pW s r 0 (ac_u s 69 38 0) := ⟨fun y y1 _ => u_ne y1, fun j hj => u_at hj, u_eq, fun j hj => absurd hj (Nat.not_lt_zero j), fun j _ => by rw [u_ne hr69]⟩
  unfold w_X12_putsAll
  refine m_puts0 hr69 (by omega) p0.2.2.1 ?_
  rw [u_at (show 35 ≠ 38 by omega)]
  have p1 := pW_35 hr69 (pW_step (v := s 69 35) hr69 p0 (by unfold kt; rw [if_pos rfl])) rfl
  unfold l_X12_putsAll_21
  intro P hP
  refine loopUp (P := fun k => ∀ s', pW s r (k + 1) s' → P (nI k) s') 83 ?_ ?_ _ p1
  rotate_left
  · intro k hk ih s1 q1
    refine hP _ _ ⟨fun z => absurd z (nI_ge (b := 83) hk (by omega)), fun _ => ⟨vp_in_nI hk (by omega), ?_⟩⟩
    rw [cl_nI (by omega), q1.1 556 (by omega) (by omega), nI_1]
    refine m_puts0 hr69 (by omega) q1.2.2.1 ⟨vp_in_nI hk (by omega), ih _ (pW_same (by omega) (by omega) (pW_step hr69 q1 ?_) rfl)⟩
    unfold kt
    rw [if_neg (by omega), if_pos (by omega), Nat.add_sub_cancel]
  intro s1 q1
  refine hP _ _ ⟨fun _ => ?_, fun z => absurd (by decide) z⟩
  unfold l_X12_putsAll_53
  intro P2 hP2
  refine loopUp (P := fun w => ∀ s', pW s r (84 + 83 * w) s' → P2 (nI w) s') 16 ?_ ?_ s1 q1
  · intro s2 q2
    exact hP2 _ _ ⟨fun _ => h s2 q2, fun z => absurd (by decide) z⟩
  · intro w hw ih s2 q2
    refine hP2 _ _ ⟨fun z => absurd z (nI_ge (b := 16) hw (by omega)), fun _ => ?_⟩
    unfold l_X12_putsAll_62
    intro P3 hP3
    refine loopUp (P := fun k => ∀ s', pW s r (84 + 83 * w + k) s' → P3 (nI k) s') 83 ?_ ?_ s2 q2
    · intro s3 q3
      refine hP3 _ _ ⟨fun _ => ?_, fun z => absurd (by decide) z⟩
      rw [nI_1]
      exact ih s3 (by rw [show 84 + 83 * (w + 1) = 84 + 83 * w + 83 by omega]; exact q3)
    · intro k hk ih2 s3 q3
      have v16 : vp_in (nI w) 16 := vp_in_nI hw (by omega)
      have v83 : vp_in (nI k) 83 := vp_in_nI hk (by omega)
      refine hP3 _ _ ⟨fun z => absurd z (nI_ge (b := 83) hk (by omega)), fun _ => ⟨v16, v16, v83, ?_⟩⟩
      rw [cl_nI (n := k) (by omega), cl_nI (n := w) (by omega), q3.1 (560 + w) (by omega) (by omega), nI_1]
      refine m_puts0 (m := 84 + 83 * w + k) hr69 (by omega) q3.2.2.1 ⟨v83, ih2 _ (pW_same (by omega) (by omega) (pW_step (m := 84 + 83 * w + k) hr69 q3 ?_) rfl)⟩
      unfold kt
      rw [if_neg (by omega), if_neg (by omega), show (84 + 83 * w + k - 84) / 83 = w by omega, show (84 + 83 * w + k - 84) % 83 = k by omega]
def pR (s : ac_m) (r m : Nat) (s' : ac_m) : Prop := (∀ y, y ≠ 69 → y ≠ 556 → (y < 560 ∨ 575 < y) → s' y = s y) ∧ (∀ j, j ≠ 38 → j ≠ 35 → s' 69 j = s 69 j) ∧ s' 69 38 = nI m ∧ (1 ≤ m → s' 69 35 = s r 0) ∧ (∀ k, k < 83 → k + 1 < m → s' 556 k = s r (1 + k)) ∧ (∀ w, w < 16 → ∀ k, k < 83 → 84 + 83 * w + k < m → s' (560 + w) k = s r (84 + 83 * w + k))
theorem m_putsR {r : Nat} {Q : ac_m → Prop} {s : ac_m} (hr : 577 ≤ r) (h : ∀ s', pR s r 1412 s' → Q s') : w_X12_putsAll r 1 Q s := by
  have hr69 : r ≠ 69 := by omega
  unfold w_X12_putsAll
  refine m_puts1 (m := 0) hr69 (by omega) u_eq ?_
  rw [u_ne hr69]
  have p1 : pR s r 1 (ac_u (ac_u (ac_u s 69 38 0) 69 38 (nI (0 + 1))) 69 35 (s r 0)) := by
    refine ⟨fun y y1 _ _ => by rw [u_ne y1, u_ne y1, u_ne y1], fun j j1 j2 => by rw [u_at j2, u_at j1, u_at j1], by rw [u_at (by omega), u_eq], fun _ => u_eq, fun k _ hk => by omega, fun w _ k _ hk => by omega⟩
  unfold l_X12_putsAll_21
  intro P hP
  refine loopUp (P := fun k => ∀ s', pR s r (k + 1) s' → P (nI k) s') 83 ?_ ?_ _ p1
  rotate_left
  · intro k hk ih s1 q1
    obtain ⟨a1, a2, a3, a4, a5, a6⟩ := q1
    refine hP _ _ ⟨fun z => absurd z (nI_ge (b := 83) hk (by omega)), fun _ => ⟨vp_in_nI hk (by omega), ?_⟩⟩
    rw [cl_nI (by omega), nI_1]
    refine m_puts1 hr69 (by omega) a3 ⟨vp_in_nI hk (by omega), ih _ ⟨fun y y1 y2 y3 => by rw [u_ne y2, u_ne y1]; exact a1 y y1 y2 y3, fun j j1 j2 => by rw [u_ne (by omega), u_at j1]; exact a2 j j1 j2, by rw [u_ne (by omega), u_eq], fun _ => by rw [u_ne (by omega), u_at (by omega)]; exact a4 (by omega), fun j hj hl => ?_, fun w _ j _ hl => by omega⟩⟩
    by_cases e : j = k
    · rw [e, u_eq, a1 r hr69 (by omega) (by omega), Nat.add_comm 1 k]
    · rw [u_at e, u_ne (by omega)]; exact a5 j hj (by omega)
  intro s1 q1
  refine hP _ _ ⟨fun _ => ?_, fun z => absurd (by decide) z⟩
  unfold l_X12_putsAll_53
  intro P2 hP2
  refine loopUp (P := fun w => ∀ s', pR s r (84 + 83 * w) s' → P2 (nI w) s') 16 ?_ ?_ s1 q1
  · intro s2 q2
    exact hP2 _ _ ⟨fun _ => h s2 q2, fun z => absurd (by decide) z⟩
  · intro w hw ih s2 q2
    refine hP2 _ _ ⟨fun z => absurd z (nI_ge (b := 16) hw (by omega)), fun _ => ?_⟩
    unfold l_X12_putsAll_62
    intro P3 hP3
    refine loopUp (P := fun k => ∀ s', pR s r (84 + 83 * w + k) s' → P3 (nI k) s') 83 ?_ ?_ s2 q2
    · intro s3 q3
      refine hP3 _ _ ⟨fun _ => ?_, fun z => absurd (by decide) z⟩
      rw [nI_1]
      exact ih s3 (by rw [show 84 + 83 * (w + 1) = 84 + 83 * w + 83 by omega]; exact q3)
    · intro k hk ih2 s3 q3
      obtain ⟨a1, a2, a3, a4, a5, a6⟩ := q3
      have v16 : vp_in (nI w) 16 := vp_in_nI hw (by omega)
      have v83 : vp_in (nI k) 83 := vp_in_nI hk (by omega)
      refine hP3 _ _ ⟨fun z => absurd z (nI_ge (b := 83) hk (by omega)), fun _ => ⟨v16, v16, v83, ?_⟩⟩
      rw [cl_nI (n := k) (by omega), cl_nI (n := w) (by omega), nI_1]
      refine m_puts1 hr69 (by omega) a3 ⟨v83, ih2 _ ⟨fun y y1 y2 y3 => by rw [u_ne (by omega), u_ne y1]; exact a1 y y1 y2 y3, fun j j1 j2 => by rw [u_ne (by omega), u_at j1]; exact a2 j j1 j2, by rw [u_ne (by omega), u_eq]; rfl, fun _ => by rw [u_ne (by omega), u_at (by omega)]; exact a4 (by omega), fun j hj hl => ?_, fun w' hw' j hj hl => ?_⟩⟩
      · rw [u_ne (by omega), u_ne (by omega)]; exact a5 j hj (by omega)
      · by_cases e : w' = w
        · subst e
          by_cases e2 : j = k
          · rw [e2, u_eq, a1 r hr69 (by omega) (by omega)]
          · rw [u_at e2, u_ne (by omega)]; exact a6 w' hw' j hj (by omega)
        · rw [u_ne (by omega), u_ne (by omega)]; exact a6 w' hw' j hj (by omega)
theorem s_image (s : ac_m) (i : Inv s) : sim0 w_X11_image w_X12_image s := by
  obtain ⟨iH0, iM0, vM0, vB0, iL0, iB0, iT0, iP0, iX0⟩ := id i
  obtain ⟨p1, p2, p3, p4, p5, p6, p7, p8⟩ := iP0
  obtain ⟨n, hn, en⟩ := nI_of2 (M := 3) (n := 3) rfl (show ¬ s 69 37 < 0 by grind) p6
  obtain ⟨o, ho, eo⟩ := nI_of2 (M := 16) (n := 16) rfl (show ¬ s 69 35 < 0 by grind) p3
  unfold sim0 w_X11_image w_X6_takeImage
  rw [p4, en]
  have t0 : ∀ (s1 : ac_m) j, j ≠ 0 → (ac_u s1 69 0 0) 69 j = s1 69 j := fun s1 j hj => u_at hj
  rcases Nat.lt_or_ge n 3 with h3 | h3
  rotate_left
  · have e : n = 3 := by omega
    subst e
    refine ⟨fun h => absurd h (by decide), fun _ => ⟨fun h => absurd h (by decide), fun _ => m_if0B ?_⟩⟩
    show w_X12_image (fun b s2 => (-1 : Int32) = b ∧ s2 69 0 = 0 ∧ Inv s2) s
    unfold w_X12_image
    rw [t0 s 37 (by omega), en]
    exact ⟨fun h => absurd rfl h, fun _ => ⟨rfl, u_eq, Inv_0 i⟩⟩
  · have em : nI n * (1411 : Int32) = nI (1411 * n) := by rw [show (1411 : Int32) = nI 1411 from rfl, nI_mul, Nat.mul_comm]
    have ea : nI (1411 * n) + (1328 : Int32) = nI (1411 * n + 1328) := nI_add _ 1328
    have T0 : (0 : Int32).toNatClampNeg = 0 := rfl
    have T1 : (1328 : Int32).toNatClampNeg = 1328 := rfl
    rw [em, ea, T0, T1, cl_nI (n := 1411 * n) (by omega)]
    refine ⟨fun h => absurd h (nI_pos (by omega)), fun _ => ⟨fun _ => ⟨⟨by decide, nI_pos (by omega), by decide, by omega, by omega⟩, ?_⟩, fun h => absurd (nI_lt (b := 3) h3 (by omega)) h⟩⟩
    have m0 : rM (ac_cp s 59 60 0 (1411 * n) 1328) 42 (s 556) := rM_fr (fun j hj => cp_ne (by omega)) iM0
    refine c_store (by omega) (by omega) (by omega) m0 (fun s1 f1 g1 m1 => ?_)
    have e58 : s1 58 = s 58 := by rw [f1 58 (by omega), cp_ne (by omega)]
    rw [e58, p4, en, p1, eo, cl_nI (n := n) (by omega)]
    refine ⟨vp_in_nI h3 (by omega), m_if1B ?_⟩
    have e84 : (ac_u s1 61 n (nI o)) 58 4 = nI n := by rw [u_ne (by omega), e58, p4, en]
    rw [e84, u_eq, nI_1]
    show w_X12_image (fun b s2 => nI (n + 1) = b ∧ s2 69 0 = 0 ∧ Inv s2) (ac_u (ac_u s1 61 n (nI o)) 58 4 (nI (n + 1)))
    have X69 : (ac_u (ac_u s1 61 n (nI o)) 58 4 (nI (n + 1))) 69 = s 69 := by rw [u_ne (by omega), u_ne (by omega), f1 69 (by omega), cp_ne (by omega)]
    unfold w_X12_image
    rw [t0 _ 37 (by omega), X69, en, cl_nI (by omega)]
    refine ⟨fun _ => ⟨vp_in_nI h3 (by omega), m_putsW (by omega) (fun s2 q2 => ?_)⟩, fun h => absurd h (fun h => absurd ((nI_eq (b := 3) (by omega) (by omega)).1 h) (by omega))⟩
    obtain ⟨a1, a2, a3, a4, a5⟩ := q2
    have e37 : s2 69 37 = nI n := by rw [a2 37 (by omega), t0 _ 37 (by omega), X69, en]
    rw [u_eq, e37, nI_1]
    have T : ∀ j, j ≠ 38 → (ac_u s2 69 37 (nI (n + 1))) 69 j = if j = 37 then nI (n + 1) else if j = 0 then 0 else s 69 j := by
      intro j hj
      by_cases c : j = 37
      · rw [if_pos c, c, u_eq]
      · rw [if_neg c, u_at c, a2 j hj]
        by_cases d : j = 0
        · rw [if_pos d, d, u_eq]
        · rw [if_neg d, t0 _ j d, X69]
    have R : ∀ y, y ≠ 69 → y ≠ 577 + n → y ≠ 58 → y ≠ 61 → y ≠ 60 → (ac_u s2 69 37 (nI (n + 1))) y = s y := by
      intro y y1 y2 y3 y4 y5
      rw [u_ne y1, a1 y y1 y2, u_ne y1, u_ne y3, u_ne y4, f1 y y5, cp_ne y5]
    have R60 : ∀ j, (ac_u s2 69 37 (nI (n + 1))) 60 j = s1 60 j := by
      intro j
      rw [u_ne (by omega), a1 60 (by omega) (by omega), u_ne (by omega), u_ne (by omega), u_ne (by omega)]
    have R58 : ∀ j, (ac_u s2 69 37 (nI (n + 1))) 58 j = if j = 4 then nI (n + 1) else s 58 j := by
      intro j
      rw [u_ne (by omega), a1 58 (by omega) (by omega), u_ne (by omega)]
      by_cases c : j = 4
      · rw [if_pos c, c, u_eq]
      · rw [if_neg c, u_at c, u_ne (by omega), e58]
    have R61 : ∀ j, (ac_u s2 69 37 (nI (n + 1))) 61 j = if j = n then nI o else s 61 j := by
      intro j
      rw [u_ne (by omega), a1 61 (by omega) (by omega), u_ne (by omega), u_ne (by omega)]
      by_cases c : j = n
      · rw [if_pos c, c, u_eq]
      · rw [if_neg c, u_at c, f1 61 (by omega), cp_ne (by omega)]
    have Kn : ∀ j, j < 1412 → (ac_u s2 69 37 (nI (n + 1))) (577 + n) j = kt s j := by
      intro j hj
      rw [u_ne (by omega), a4 j hj]
      unfold kt
      have q1 : ∀ y, y ≠ 69 → y ≠ 58 → y ≠ 61 → y ≠ 60 → (ac_u (ac_u (ac_u s1 61 n (nI o)) 58 4 (nI (n + 1))) 69 0 0) y = s y := fun y y1 y2 y3 y4 => by rw [u_ne y1, u_ne y2, u_ne y3, f1 y y4, cp_ne y4]
      rw [t0 _ 35 (by omega), X69, q1 556 (by omega) (by omega) (by omega) (by omega)]
      by_cases c : j = 0
      · rw [if_pos c, if_pos c]
      · rw [if_neg c, if_neg c]
        by_cases d : j < 84
        · rw [if_pos d, if_pos d]
        · rw [if_neg d, if_neg d, q1 _ (by omega) (by omega) (by omega) (by omega)]
    have seg : ∀ j, j < 1411 * n ∨ 1411 * n + 1411 ≤ j → s1 60 j = s 60 j := by
      intro j hj
      rw [g1 j (by omega), cp_out (by omega)]
    have e73 : (ac_u s2 69 37 (nI (n + 1))) 73 = s 73 := R 73 (by omega) (by omega) (by omega) (by omega) (by omega)
    refine ⟨rfl, by rw [T 0 (by omega), if_neg (by omega), if_pos rfl], iH_fr iH0 (fun a ha => R a (by omega) (by omega) (by omega) (by omega) (by omega)), ?_, ?_, ?_, iL_of iL0 ?_ ?_ ?_ (fun j hj => R _ (by omega) (by omega) (by omega) (by omega) (by omega)), iB_fr iB0 (fun a ha => R a (by omega) (by omega) (by omega) (by omega) (by omega)) ?_, iT_fr iT0 ?_ ?_ ?_ ?_, ⟨?_, ?_, ?_, ?_, ?_, ?_, fun w hw => ?_, fun j hj hl => ?_⟩, ?_⟩
    · show rM _ 42 _
      rw [R 556 (by omega) (by omega) (by omega) (by omega) (by omega)]
      exact rM_fr (s := s) (fun j hj => R _ (by omega) (by omega) (by omega) (by omega) (by omega)) iM0
    · rw [e73, R 556 (by omega) (by omega) (by omega) (by omega) (by omega)]; exact vM0
    · rw [e73, R 556 (by omega) (by omega) (by omega) (by omega) (by omega)]; exact vB0
    · rw [T 19 (by omega), if_neg (by omega), if_neg (by omega)]
    · rw [R 25 (by omega) (by omega) (by omega) (by omega) (by omega)]
    · rw [R 26 (by omega) (by omega) (by omega) (by omega) (by omega)]
    · rw [T 34 (by omega), if_neg (by omega), if_neg (by omega)]
    · rw [R 1 (by omega) (by omega) (by omega) (by omega) (by omega)]
    · rw [R 2 (by omega) (by omega) (by omega) (by omega) (by omega)]
    · rw [R 70 (by omega) (by omega) (by omega) (by omega) (by omega)]
    · rw [T 1 (by omega), if_neg (by omega), if_neg (by omega)]
    · rw [R58, if_neg (by omega), T 35 (by omega), if_neg (by omega), if_neg (by omega)]; exact p1
    · rw [T 35 (by omega), if_neg (by omega), if_neg (by omega)]; exact p2
    · rw [T 35 (by omega), if_neg (by omega), if_neg (by omega)]; exact p3
    · rw [R58, if_pos rfl, T 37 (by omega), if_pos rfl]
    · rw [T 37 (by omega), if_pos rfl]; exact nI_pos' (by omega)
    · rw [T 37 (by omega), if_pos rfl]; exact nI_le (b := 3) (by omega) (by omega)
    · rw [e73, T 35 (by omega), if_neg (by omega), if_neg (by omega), R 59 (by omega) (by omega) (by omega) (by omega) (by omega), R (560 + w) (by omega) (by omega) (by omega) (by omega) (by omega)]
      exact p7 w hw
    · rw [T 37 (by omega), if_pos rfl] at hl
      have jl := (nI_ltI (by omega) (by omega)).1 hl
      rw [e73, R61]
      by_cases c : j = n
      · subst c
        rw [if_pos rfl]
        have kb : ∀ k, k < 83 → (ac_u s2 69 37 (nI (j + 1))) (577 + j) (1 + k) = s 556 k := fun k hk => by
          rw [Kn _ (by omega)]; unfold kt; rw [if_neg (by omega), if_pos (by omega), Nat.add_sub_cancel_left]
        have kw : ∀ w, w < 16 → ∀ k, k < 83 → (ac_u s2 69 37 (nI (j + 1))) (577 + j) (84 + 83 * w + k) = s (560 + w) k := fun w hw k hk => by
          rw [Kn _ (by omega)]; unfold kt; rw [if_neg (by omega), if_neg (by omega), show (84 + 83 * w + k - 84) / 83 = w by omega, show (84 + 83 * w + k - 84) % 83 = k by omega]
        refine ⟨?_, nI_pos' (by omega), nI_le (b := 16) ho (by omega), ?_, vM_cong vM0 kb, vB_cong vB0 kb, fun w hw => ⟨?_, fun hw2 => ?_⟩⟩
        · rw [Kn 0 (by omega)]; unfold kt; rw [if_pos rfl, eo]
        · exact iS_st.2 (stR_cong m1 (fun k _ => R60 _) kb)
        · refine iS_st.2 ?_
          have st := iS_st.1 (p7 w hw).1
          refine stR_cong (stR_move (X' := (ac_u s2 69 37 (nI (j + 1))) 60) (p' := 1411 * j + 83 * w) st (fun k hk => ?_)) (fun _ _ => rfl) (fun k hk => ?_)
          · rw [R60, g1 _ (by omega), cp_in (by omega) (by omega), show 0 + (1411 * j + 83 * w + k - 1411 * j) = 83 * w + k by omega]
          · show _ = s (560 + w) (0 + k)
            rw [kw w hw k hk, Nat.zero_add]
        · have q := (p7 w hw).2 (by rw [eo]; exact hw2)
          exact ⟨vM_cong q.1 (kw w hw), vB_cong q.2 (kw w hw)⟩
      · rw [if_neg c, R (577 + j) (by omega) (by omega) (by omega) (by omega) (by omega)]
        have q := p8 j hj (by rw [en]; exact nI_lt (by omega) (by omega))
        refine ⟨q.1, q.2.1, q.2.2.1, iS_st.2 (stR_cong (iS_st.1 q.2.2.2.1) (fun k hk => ?_) (fun _ _ => rfl)), q.2.2.2.2.1, q.2.2.2.2.2.1, fun w hw => ⟨iS_st.2 (stR_cong (iS_st.1 (q.2.2.2.2.2.2 w hw).1) (fun k hk => ?_) (fun _ _ => rfl)), (q.2.2.2.2.2.2 w hw).2⟩⟩
        · rw [R60, seg _ (by omega)]
        · rw [R60, seg _ (by omega)]
    · unfold iX
      rw [R 1 (by omega) (by omega) (by omega) (by omega) (by omega), R 0 (by omega) (by omega) (by omega) (by omega) (by omega), R 71 (by omega) (by omega) (by omega) (by omega) (by omega), T 3 (by omega), T 36 (by omega), if_neg (by omega), if_neg (by omega), if_neg (by omega), if_neg (by omega)]
      exact iX0
