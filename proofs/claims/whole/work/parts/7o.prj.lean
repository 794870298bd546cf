/-! ONE PASTURE ALONE: the others' beasts do not touch it -/
def prj (f : Nat) (x y : ro) : Prop :=
  (∀ b, b < 13 → (x b ≤ 0 ∨ x (26 + b) ≠ nI f → y b = 0 ∧ y (13 + b) = 0 ∧ y (26 + b) = -1) ∧ (¬ x b ≤ 0 → x (26 + b) = nI f → y b = x b ∧ y (13 + b) = x (13 + b) ∧ y (26 + b) = nI f)) ∧ y (39 + f) = x (39 + f) ∧ (∀ k, k < 36 → y (45 + k) = x (45 + k)) ∧ y 82 = x 82
theorem prj_on {f : Nat} {x y : ro} (hf : f < 6) (h : prj f x y) {b : Nat} (hb : b < 13) : (0 < x b ∧ x (26 + b) = nI f) ↔ (0 < y b ∧ y (26 + b) = nI f) := by
  have q := h.1 b hb
  by_cases c : x b ≤ 0 ∨ x (26 + b) ≠ nI f
  · have z := q.1 c
    constructor
    · intro w; rcases c with c | c
      · exact absurd w.1 (by grind)
      · exact absurd w.2 c
    · intro w; rw [z.1] at w; exact absurd w.1 (by decide)
  · have c1 : ¬ x b ≤ 0 := fun z => c (.inl z)
    have c2 : x (26 + b) = nI f := by
      by_cases e : x (26 + b) = nI f
      · exact e
      · exact absurd (.inr e) c
    have z := q.2 c1 c2
    rw [z.1, z.2.2, c2]
theorem prj_ap {s : ac_m} {f : Nat} {x y : ro} (hf : f < 6) (hB : ∀ b, b < 12 → ¬ x b ≤ 0 → ∃ d e, d < 6 ∧ e < 6 ∧ s (102 + b) 0 = nI d ∧ s (102 + b) 1 = nI e) (h : prj f x y) {b : Nat} (hb : b < 13) (c1 : ¬ x b ≤ 0) (c2 : x (26 + b) = nI f) : apX s x b = apX s y b := by
  have z := (h.1 b hb).2 c1 c2
  have ec : cn x (nI f) 13 = cn y (nI f) 13 := by
    unfold cn
    refine sm_cong (fun k hk => ?_)
    rw [decide_eq_decide.mpr (prj_on hf h hk)]
  have cy : ¬ y b ≤ 0 := by rw [z.1]; exact c1
  unfold apX
  rw [if_neg c1, if_neg cy, z.1, z.2.1, z.2.2, c2, ec, cl_nI (by omega), h.2.1, h.2.2.2]
  by_cases e12 : b = 12
  · rw [if_pos e12, if_pos e12]
  · obtain ⟨d, e, hd, he, ed, ee⟩ := hB b (by omega) c1
    rw [if_neg e12, if_neg e12, ed, ee, cl_nI (by omega), cl_nI (by omega), h.2.2.1 _ (by omega)]
/-- one beast grazes -/
theorem prj_gz {F f : Nat} {e e' X Y : ro} {k : Nat} (hF : F ≤ 6) (hf : f < 6) (hk : k < 13) (vX : vN (nI F) X) (h : prj f X Y) (he : ¬ X k ≤ 0 → X (26 + k) = nI f → e k = e' k) : prj f (gz e X k) (gz e' Y k) := by
  by_cases c : X k ≤ 0
  · have z := (h.1 k hk).1 (.inl c)
    unfold gz
    rw [if_pos c, if_pos (by rw [z.1]; decide)]
    exact h
  · obtain ⟨-, -, g, hg, eg⟩ := vN_on hF vX hk c
    have pX := gz_pt (e := e) hk (show g < 6 by omega) c eg
    have K0 : gz e X k k = if 0 < X k - (e k - gt e X k) then X k - (e k - gt e X k) else 0 := by rw [pX k, if_neg (by omega), if_pos rfl]
    have K26 : gz e X k (26 + k) = if 0 < X k - (e k - gt e X k) then X (26 + k) else -1 := by rw [pX (26 + k), if_neg (by omega), if_neg (by omega), if_neg (show ¬ 26 + k = 13 + k by omega), if_pos rfl]
    have K13 : gz e X k (13 + k) = if 0 < X k - (e k - gt e X k) then X (13 + k) else 0 := by rw [pX (13 + k), if_neg (by omega), if_neg (by omega), if_pos rfl]
    have O0 : ∀ b, b < 13 → b ≠ k → gz e X k b = X b ∧ gz e X k (13 + b) = X (13 + b) ∧ gz e X k (26 + b) = X (26 + b) := by
      intro b hb hbk
      refine ⟨?_, ?_, ?_⟩
      · rw [pX b, if_neg (by omega), if_neg hbk, if_neg (show ¬ b = 13 + k by omega), if_neg (show ¬ b = 26 + k by omega), if_neg (show ¬ b = 81 by omega)]; split <;> rfl
      · rw [pX (13 + b), if_neg (by omega), if_neg (by omega), if_neg (show ¬ 13 + b = 13 + k by omega), if_neg (show ¬ 13 + b = 26 + k by omega), if_neg (show ¬ 13 + b = 81 by omega)]; split <;> rfl
      · rw [pX (26 + b), if_neg (by omega), if_neg (by omega), if_neg (show ¬ 26 + b = 13 + k by omega), if_neg (show ¬ 26 + b = 26 + k by omega), if_neg (show ¬ 26 + b = 81 by omega)]; split <;> rfl
    have O45 : ∀ m, m < 36 → gz e X k (45 + m) = X (45 + m) := by
      intro m hm
      rw [pX (45 + m), if_neg (by omega), if_neg (by omega), if_neg (show ¬ 45 + m = 13 + k by omega), if_neg (show ¬ 45 + m = 26 + k by omega), if_neg (show ¬ 45 + m = 81 by omega)]; split <;> rfl
    have O82 : gz e X k 82 = X 82 := by
      rw [pX 82, if_neg (by omega), if_neg (by omega), if_neg (show ¬ 82 = 13 + k by omega), if_neg (show ¬ 82 = 26 + k by omega), if_neg (show ¬ 82 = 81 by omega)]; split <;> rfl
    by_cases c2 : X (26 + k) = nI f
    · have gf : g = f := (nI_eq (by omega) (by omega)).1 (eg.symm.trans c2)
      subst gf
      have z := (h.1 k hk).2 c c2
      have cY : ¬ Y k ≤ 0 := by rw [z.1]; exact c
      have pY := gz_pt (e := e') hk hf cY z.2.2
      have egt : gt e' Y k = gt e X k := by unfold gt; rw [z.2.2, c2, cl_nI (by omega), h.2.1, he c c2]
      rw [egt, z.1, ← he c c2, h.2.1] at pY
      generalize X k - (e k - gt e X k) = w at *
      have Y0 : gz e' Y k k = if 0 < w then w else 0 := by rw [pY k, if_neg (by omega), if_pos rfl]
      have Y26 : gz e' Y k (26 + k) = if 0 < w then Y (26 + k) else -1 := by rw [pY (26 + k), if_neg (by omega), if_neg (by omega), if_neg (show ¬ 26 + k = 13 + k by omega), if_pos rfl]
      have Y13 : gz e' Y k (13 + k) = if 0 < w then Y (13 + k) else 0 := by rw [pY (13 + k), if_neg (by omega), if_neg (by omega), if_pos rfl]
      refine ⟨fun b hb => ?_, ?_, fun m hm => ?_, ?_⟩
      · by_cases e1 : b = k
        · subst e1
          rw [K0, K26, K13, Y0, Y26, Y13]
          by_cases d : 0 < w
          · simp only [if_pos d]
            exact ⟨fun y => absurd y (fun y => by rcases y with y | y; exact absurd y (by grind); exact y c2), fun _ _ => ⟨trivial, z.2.1, z.2.2⟩⟩
          · simp only [if_neg d]
            exact ⟨fun _ => ⟨trivial, trivial, trivial⟩, fun y => absurd (by decide) y⟩
        · have oX := O0 b hb e1
          have y0 : gz e' Y k b = Y b := gz_o hb (.inl e1)
          have y13 : gz e' Y k (13 + b) = Y (13 + b) := by
            rw [pY (13 + b), if_neg (by omega), if_neg (show ¬ 13 + b = k by omega), if_neg (show ¬ 13 + b = 13 + k by omega), if_neg (show ¬ 13 + b = 26 + k by omega), if_neg (show ¬ 13 + b = 81 by omega)]; split <;> rfl
          have y26 : gz e' Y k (26 + b) = Y (26 + b) := by
            rw [pY (26 + b), if_neg (by omega), if_neg (show ¬ 26 + b = k by omega), if_neg (show ¬ 26 + b = 13 + k by omega), if_neg (show ¬ 26 + b = 26 + k by omega), if_neg (show ¬ 26 + b = 81 by omega)]; split <;> rfl
          rw [oX.1, oX.2.1, oX.2.2, y0, y13, y26]
          exact h.1 b hb
      · rw [pX, pY, if_pos rfl, if_pos rfl]
      · rw [O45 m hm, pY (45 + m), if_neg (by omega), if_neg (by omega), if_neg (show ¬ 45 + m = 13 + k by omega), if_neg (show ¬ 45 + m = 26 + k by omega), if_neg (show ¬ 45 + m = 81 by omega)]
        rw [← h.2.2.1 m hm]; split <;> rfl
      · rw [O82, pY 82, if_neg (by omega), if_neg (by omega), if_neg (show ¬ 82 = 13 + k by omega), if_neg (show ¬ 82 = 26 + k by omega), if_neg (show ¬ 82 = 81 by omega)]
        rw [← h.2.2.2]; split <;> rfl
    · have z := (h.1 k hk).1 (.inr c2)
      have eY : gz e' Y k = Y := by unfold gz; rw [if_pos (by rw [z.1]; decide)]
      rw [eY]
      have gf : g ≠ f := fun q => c2 (by rw [eg, q])
      have n1 : (-1 : Int32) ≠ nI f := fun q => by have := nI_pos' (n := f) (by omega); rw [← q] at this; exact absurd this (by decide)
      refine ⟨fun b hb => ?_, ?_, fun m hm => ?_, ?_⟩
      · by_cases e1 : b = k
        · subst e1
          rw [K26]
          refine ⟨fun _ => z, fun _ y => absurd y ?_⟩
          split
          · exact c2
          · exact n1
        · have oX := O0 b hb e1
          rw [oX.1, oX.2.1, oX.2.2]; exact h.1 b hb
      · rw [pX (39 + f), if_neg (by omega), if_neg (by omega), if_neg (show ¬ 39 + f = 13 + k by omega), if_neg (show ¬ 39 + f = 26 + k by omega), if_neg (show ¬ 39 + f = 81 by omega), h.2.1]; split <;> rfl
      · rw [O45 m hm]; exact h.2.2.1 m hm
      · rw [O82]; exact h.2.2.2
theorem gz_26 {F : Nat} {e X : ro} {k b : Nat} (hF : F ≤ 6) (hk : k < 13) (hb : b < 13) (v : vN (nI F) X) (h : ¬ gz e X k b ≤ 0) : ¬ X b ≤ 0 ∧ gz e X k (26 + b) = X (26 + b) := by
  by_cases c : X k ≤ 0
  · have e0 : gz e X k = X := by unfold gz; rw [if_pos c]
    rw [e0] at h ⊢
    exact ⟨h, rfl⟩
  · obtain ⟨-, -, g, hg, eg⟩ := vN_on hF v hk c
    have pX := gz_pt (e := e) hk (show g < 6 by omega) c eg
    by_cases e1 : b = k
    · subst e1
      rw [pX b, if_neg (by omega), if_pos rfl] at h
      rw [pX (26 + b), if_neg (by omega), if_neg (by omega), if_neg (show ¬ 26 + b = 13 + b by omega), if_pos rfl]
      by_cases d : 0 < X b - (e b - gt e X b)
      · exact ⟨c, if_pos d⟩
      · rw [if_neg d] at h; exact absurd (by decide) h
    · rw [gz_o hb (.inl e1)] at h
      refine ⟨h, ?_⟩
      rw [pX (26 + b), if_neg (by omega), if_neg (by omega), if_neg (show ¬ 26 + b = 13 + k by omega), if_neg (show ¬ 26 + b = 26 + k by omega), if_neg (show ¬ 26 + b = 81 by omega)]; split <;> rfl
theorem prj_gzs {F f : Nat} {e e' x y : ro} (hF : F ≤ 6) (hf : f < 6) (v : vN (nI F) x) (eb : ∀ b, b < 13 → 0 ≤ e b ∧ e b ≤ 20) (h : prj f x y) (he : ∀ b, b < 13 → ¬ x b ≤ 0 → x (26 + b) = nI f → e b = e' b) :
    ∀ k, k ≤ 13 → prj f (gzs e x k) (gzs e' y k) ∧ ∀ b, b < 13 → ¬ gzs e x k b ≤ 0 → ¬ x b ≤ 0 ∧ gzs e x k (26 + b) = x (26 + b)
  | 0, _ => ⟨h, fun b _ hz => ⟨hz, rfl⟩⟩
  | k + 1, hk => by
    obtain ⟨h1, h2⟩ := prj_gzs hF hf v eb h he k (by omega)
    have vX := vN_gzs hF v eb (k := k) (by omega)
    rw [gzs, gzs]
    refine ⟨prj_gz hF hf (by omega) vX h1 (fun c1 c2 => ?_), fun b hb hz => ?_⟩
    · have q := h2 k (by omega) c1
      exact he k (by omega) q.1 (q.2.symm.trans c2)
    · have q := gz_26 hF (by omega) hb vX hz
      have q2 := h2 b hb q.1
      exact ⟨q2.1, q.2.trans q2.2⟩
theorem prj_day {s : ac_m} {F f : Nat} {x y : ro} (en : En s F x) (hf : f < F) (h : prj f x y) : prj f (dyF s F x) (dyF s F y) := by
  obtain ⟨i, hF, h73, v, hb, hg⟩ := en
  have hfB : ∀ b, b < 12 → ¬ x b ≤ 0 → ∃ d e, d < 6 ∧ e < 6 ∧ s (102 + b) 0 = nI d ∧ s (102 + b) 1 = nI e := by
    intro b hb12 hz
    obtain ⟨h1, h2, -, d, e, hd, he, ed, ee⟩ := hb b hb12 hz
    exact ⟨d, e, hd, he, h1.symm.trans ed, h2.symm.trans ee⟩
  have hp := (prj_gzs (e := apX s x) (e' := apX s y) hF (show f < 6 by omega) v (fun b _ => apX_bd s x b) h (fun b hb' c1 c2 => prj_ap (by omega) hfB h hb' c1 c2) 13 (by omega)).1
  unfold dyF
  generalize gzs (apX s x) x 13 = X at *
  generalize gzs (apX s y) y 13 = Y at *
  have G : ∀ (Z : ro) j, ¬ (39 ≤ j ∧ j < 39 + F) → gwk (fun f => s (82 + f) 1) (agk Z 13) F j = if 13 ≤ j ∧ j < 13 + 13 ∧ ¬ Z (j - 13) ≤ 0 then Z j + 1 else Z j := fun Z j hj => by rw [gwk_pt, if_neg hj, agk_pt j (by omega)]
  refine ⟨fun b hb' => ?_, ?_, fun m hm => ?_, ?_⟩
  · rw [upd_ne (by omega), upd_ne (by omega), upd_ne (by omega), upd_ne (by omega), upd_ne (by omega), upd_ne (by omega)]
    rw [G X b (by omega), if_neg (by omega), G X (13 + b) (by omega), G X (26 + b) (by omega), if_neg (show ¬ (13 ≤ 26 + b ∧ 26 + b < 13 + 13 ∧ _) by omega), G Y b (by omega), if_neg (show ¬ (13 ≤ b ∧ b < 13 + 13 ∧ _) by omega), G Y (13 + b) (by omega), G Y (26 + b) (by omega), if_neg (show ¬ (13 ≤ 26 + b ∧ 26 + b < 13 + 13 ∧ _) by omega), show 13 + b - 13 = b by omega]
    have q := hp.1 b hb'
    refine ⟨fun c => ?_, fun c1 c2 => ?_⟩
    · have z := q.1 c
      rw [if_neg (fun y => y.2.2 (by rw [z.1]; decide))]
      exact z
    · have z := q.2 c1 c2
      rw [if_pos ⟨by omega, by omega, by rw [z.1]; exact c1⟩, if_pos ⟨by omega, by omega, c1⟩, z.2.1]
      exact ⟨z.1, rfl, z.2.2⟩
  · rw [upd_ne (by omega), upd_ne (by omega), gwk_pt, if_pos (by omega), gwk_pt, if_pos (by omega), agk_pt _ (by omega), if_neg (by omega), agk_pt _ (by omega), if_neg (by omega), hp.2.1]
  · rw [upd_ne (by omega), upd_ne (by omega), G X _ (by omega), if_neg (by omega), G Y _ (by omega), if_neg (by omega)]
    exact hp.2.2.1 m hm
  · rw [upd_eq, upd_eq, G X _ (by omega), if_neg (by omega), G Y _ (by omega), if_neg (by omega), hp.2.2.2]
