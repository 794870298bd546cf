/-! BOOK: the text read once and for all -/
def hasD (d : Nat → Nat) (v : Nat) : Nat → Bool
  | 0 => false
  | m + 1 => d m == v || hasD d v m
theorem hasD_iff {d : Nat → Nat} {v : Nat} : ∀ {m : Nat}, hasD d v m = true ↔ ∃ i, i < m ∧ d i = v
  | 0 => by
    constructor
    · intro h; cases h
    · rintro ⟨i, hi, _⟩; exact absurd hi (Nat.not_lt_zero i)
  | m + 1 => by
    have ih := hasD_iff (d := d) (v := v) (m := m)
    rw [hasD, Bool.or_eq_true, ih, beq_iff_eq]
    constructor
    · rintro (h | ⟨i, hi, e⟩)
      · exact ⟨m, by omega, h⟩
      · exact ⟨i, by omega, e⟩
    · rintro ⟨i, hi, e⟩
      by_cases c : i = m
      · left; rw [← c]; exact e
      · right; exact ⟨i, by omega, e⟩
def updN (f : Nat → Nat) (k v : Nat) : Nat → Nat := fun j => if j = k then v else f j
abbrev bkT : Type := (Nat × Nat) ⊕ (Nat × (Nat → Nat) × (Nat → Nat))
def bkO (t : Nat → Nat) (n : Nat) : Nat → Nat → Nat → (Nat → Nat) → (Nat → Nat) → bkT
  | 0, _, m, d, g => .inr (m, d, g)
  | f + 1, p, m, d, g =>
    if skb t n p = n then .inr (m, d, g)
    else if ¬ (48 ≤ ch t n (skb t n p) ∧ ch t n (skb t n p) ≤ 57) then .inl (1, skb t n p)
    else if ¬ (1 ≤ nmV t n (skb t n p) ∧ nmV t n (skb t n p) ≤ 12) then .inl (2, skb t n p)
    else if hasD d (nmV t n (skb t n p)) m = true then .inl (2, skb t n p)
    else if 6 ≤ m then .inl (3, skb t n p)
    else if ¬ (48 ≤ ch t n (skb t n (nmE t n (skb t n p))) ∧ ch t n (skb t n (nmE t n (skb t n p))) ≤ 57) then .inl (1, skb t n (nmE t n (skb t n p)))
    else if ¬ nmV t n (skb t n (nmE t n (skb t n p))) ≤ 99 then .inl (2, skb t n (nmE t n (skb t n p)))
    else if ¬ ch t n (skb t n (nmE t n (skb t n (nmE t n (skb t n p))))) = 59 then .inl (1, skb t n (nmE t n (skb t n (nmE t n (skb t n p)))))
    else bkO t n f (skb t n (nmE t n (skb t n (nmE t n (skb t n p)))) + 1) (m + 1) (updN d m (nmV t n (skb t n p))) (updN g m (nmV t n (skb t n (nmE t n (skb t n p)))))
/-- the class's draft -/
def cB (s : ac_m) (m : Nat) (d g : Nat → Nat) : Prop := m ≤ 6 ∧ s 35 1 = nI m ∧ (∀ e, e < 13 → s 36 e = -1 ∨ ∃ i, i < m ∧ d i = e ∧ s 36 e = nI (g i)) ∧ (∀ i, i < m → 1 ≤ d i ∧ d i ≤ 12 ∧ g i ≤ 99 ∧ s 36 (d i) = nI (g i))
def fB (s0 s : ac_m) : Prop := (∀ y, y ≠ 1 → y ≠ 35 → y ≠ 36 → s y = s0 y) ∧ s 1 1 = s0 1 1
theorem fB_mv {s0 s s' : ac_m} {p k : Nat} (h : fB s0 s) (m : mv s s' p k) : fB s0 s' := ⟨fun y y1 y2 y3 => (m.1 y y1).trans (h.1 y y1 y2 y3), (m.2.1 1 (by omega) (by omega)).trans h.2⟩
theorem fB_fl {s0 s s' : ac_m} {kd pl : Nat} (h : fB s0 s) (m : fl s s' kd pl) : fB s0 s' := ⟨fun y y1 y2 y3 => (m.1 y y1).trans (h.1 y y1 y2 y3), (m.2.1 1 (by omega) (by omega) (by omega) (by omega)).trans h.2⟩
theorem cB_mv {s s' : ac_m} {m p k : Nat} {d g : Nat → Nat} (h : cB s m d g) (v : mv s s' p k) : cB s' m d g := by
  unfold cB at h ⊢
  rw [v.1 35 (by omega), v.1 36 (by omega)]; exact h
theorem c_bk {t : Nat → Nat} {n : Nat} {Q : Int32 → ac_m → Prop} {s0 : ac_m} {P : Int32 → ac_m → Prop} (hP : ∀ (x2 : Int32) (s : ac_m), (((s 1 2) < x2 → (Q (1 : Int32) s)) ∧ (¬ (s 1 2) < x2 → (w_X10_ended (fun r15 s15 => (r15 = 0 → (w_X0_readLine (fun r25 s25 => (¬ r25 = 0 → (P (x2 + (1 : Int32)) s25)) ∧ (r25 = 0 → (Q (0 : Int32) s25))) s15)) ∧ (¬ r15 = 0 → (Q (1 : Int32) s15))) s))) → P x2 s) :
    ∀ (f p i m : Nat) (d g : Nat → Nat) (s : ac_m), f + i = n + 1 → i ≤ p → p ≤ n → CT s t n → s 1 3 = nI p → s 1 6 = -1 → cB s m d g → fB s0 s →
      (∀ m' d' g', bkO t n f p m d g = .inr (m', d', g') → ∀ s', fB s0 s' → s' 1 6 = -1 → cB s' m' d' g' → Q 1 s') → (∀ kd pl, bkO t n f p m d g = .inl (kd, pl) → ∀ s', fB s0 s' → s' 1 5 = nI kd → s' 1 6 = nI pl → Q 0 s') → P (nI i) s
  | 0, p, i, m, d, g, s, hf, hi, hp, _, _, _, _, _, _, _ => by omega
  | f + 1, p, i, m, d, g, s, hf, hi, hp, T, e3, e6, cb, fb, hS, hF => by
    have h6 := T.2.1.1
    have sk := skb_le' (t := t) hp
    refine hP _ _ ⟨fun z => absurd z (by rw [T.1]; exact nI_nlt (by omega) (by omega)), fun _ => ?_⟩
    rw [bkO] at hS hF
    refine c_ended T hp e3 (fun e s1 m1 => m_if1B ?_) (fun e s1 m1 => m_if0B ?_)
    · rw [if_pos e] at hS
      exact hS m d g rfl s1 (fB_mv fb m1) (by rw [m1.2.1 6 (by omega) (by omega)]; exact e6) (cB_mv cb m1)
    · rw [if_neg (by omega)] at hS hF
      generalize hq : skb t n p = q at *
      have eq : skb t n q = q := by rw [← hq]; exact skb_0 (by rw [hq]; exact sk.2.2)
      have T1 := CT_mv T m1
      have cb1 := cB_mv cb m1
      have fb1 := fB_mv fb m1
      have e61 : s1 1 6 = -1 := by rw [m1.2.1 6 (by omega) (by omega)]; exact e6
      unfold w_X0_readLine
      refine c_num T1 sk.2.1 m1.2.2.1 ?_ ?_ ?_
      · rw [eq]
        intro dq lo hi2 s2 m2
        have dq' : 48 ≤ ch t n q ∧ ch t n q ≤ 57 := dq
        rw [if_neg (fun z => z dq')] at hS hF
        have bq := nmV_bd (t := t) (n := n) (p := q)
        have v1 : 1 ≤ nmV t n q := by
          rcases Nat.lt_or_ge (nmV t n q) 1 with c | c
          · exact absurd (nI_lt (b := 1) c (by omega)) lo
          · exact c
        have v12 : nmV t n q ≤ 12 := (nI_leI (b := 12) (by omega) (by omega)).1 hi2
        rw [if_neg (fun z => z ⟨v1, v12⟩)] at hS hF
        generalize hv : nmV t n q = v at *
        have T2 := CT_mv T1 m2
        have cb2 := cB_mv cb1 m2
        have fb2 := fB_mv fb1 m2
        have e62 : s2 1 6 = -1 := by rw [m2.2.1 6 (by omega) (by omega)]; exact e61
        have v13 : vp_in (nI v) 13 := vp_in_nI (by omega) (by omega)
        have le := nmE_gt dq
        refine ⟨fun z => absurd z lo, fun _ => ⟨fun _ => ⟨v13, ?_⟩, fun z => absurd hi2 z⟩⟩
        rw [cl_nI (by omega)]
        have hd : s2 36 v = -1 ↔ ¬ hasD d v m = true := by
          rw [hasD_iff]
          constructor
          · rintro z ⟨j, hj, ej⟩
            have := (cb2.2.2.2 j hj).2.2.2
            rw [ej, z] at this
            have p0 := nI_pos' (n := g j) (by have := (cb2.2.2.2 j hj).2.2.1; omega)
            rw [← this] at p0
            exact absurd p0 (by decide)
          · intro z
            rcases cb2.2.2.1 v (by omega) with c | ⟨j, hj, ej, _⟩
            · exact c
            · exact absurd ⟨j, hj, ej⟩ z
        refine ⟨fun z => ?_, fun z => ?_⟩
        · rw [if_neg (hd.1 z)] at hS hF
          rw [cb2.2.1]
          refine ⟨fun l6 => ?_, fun l6 => ?_⟩
          · have m6 := (nI_ltI (b := 6) (by have := cb2.1; omega) (by omega)).1 l6
            rw [if_neg (by omega)] at hS hF
            have sk2 := skb_le' (t := t) (n := n) (p := nmE t n q) le.2
            refine c_num T2 le.2 m2.2.2.1 ?_ ?_ ?_
            · intro dr lo2 hi3 s3 m3
              have dr' : 48 ≤ ch t n (skb t n (nmE t n q)) ∧ ch t n (skb t n (nmE t n q)) ≤ 57 := dr
              rw [if_neg (fun z => z dr')] at hS hF
              have br := nmV_bd (t := t) (n := n) (p := skb t n (nmE t n q))
              have w99 : nmV t n (skb t n (nmE t n q)) ≤ 99 := (nI_leI (b := 99) (by omega) (by omega)).1 hi3
              rw [if_neg (fun z => z w99)] at hS hF
              have le2 := nmE_gt dr
              generalize skb t n (nmE t n q) = r at *
              generalize hw : nmV t n r = w at *
              have T3 := CT_mv T2 m3
              have cb3 := cB_mv cb2 m3
              have fb3 := fB_mv fb2 m3
              have e63 : s3 1 6 = -1 := by rw [m3.2.1 6 (by omega) (by omega)]; exact e62
              have n36 : (35 : Nat) ≠ 36 := by omega
              rw [u_eq]
              refine ⟨v13, v13, fun _ => ?_, fun z => ?_⟩
              · rw [u_ne n36, cb3.2.1, show nI m + (1:Int32) = nI (m+1) from nI_1 m]
                have T4 : CT (ac_u (ac_u s3 36 v (nI w)) 35 1 (nI (m + 1))) t n := ⟨by rw [u_ne (by omega), u_ne (by omega)]; exact T3.1, T3.2.1, fun j hj => by rw [u_ne (by omega), u_ne (by omega)]; exact T3.2.2 j hj⟩
                have fb4 : fB s0 (ac_u (ac_u s3 36 v (nI w)) 35 1 (nI (m + 1))) := ⟨fun y y1 y2 y3 => by rw [u_ne y2, u_ne y3]; exact fb3.1 y y1 y2 y3, by rw [u_ne (by omega), u_ne (by omega)]; exact fb3.2⟩
                have cb4 : cB (ac_u (ac_u s3 36 v (nI w)) 35 1 (nI (m + 1))) (m + 1) (updN d m v) (updN g m w) := by
                  obtain ⟨b1, b2, b3, b4⟩ := cb3
                  have nod : ∀ j, j < m → d j ≠ v := fun j hj ej => (hd.1 z) (hasD_iff.2 ⟨j, hj, ej⟩)
                  refine ⟨by omega, u_eq, fun e he => ?_, fun j hj => ?_⟩
                  · rw [u_ne (by omega)]
                    by_cases c : e = v
                    · right
                      refine ⟨m, by omega, ?_, ?_⟩
                      · unfold updN; rw [if_pos rfl, c]
                      · unfold updN; rw [if_pos rfl, c, u_eq]
                    · rw [u_at c]
                      rcases b3 e he with y | ⟨j, hj, ej, eg⟩
                      · exact .inl y
                      · refine .inr ⟨j, by omega, ?_, ?_⟩
                        · unfold updN; rw [if_neg (by omega)]; exact ej
                        · unfold updN; rw [if_neg (by omega)]; exact eg
                  · unfold updN
                    rw [u_ne (by omega)]
                    by_cases c : j = m
                    · rw [if_pos c, if_pos c, u_eq]; exact ⟨v1, v12, w99, rfl⟩
                    · rw [if_neg c, if_neg c]
                      have b5 := b4 j (by omega)
                      rw [u_at (nod j (by omega))]; exact b5
                have sk3 := skb_le' (t := t) (n := n) (p := nmE t n r) le2.2
                refine c_expects (c := 59) T4 le2.2 (by rw [u_ne (by omega), u_ne (by omega)]; exact m3.2.2.1) (by omega) (fun c s5 m5 => ⟨bo_1, m_if1A ?_⟩) (fun c s5 f5 => ⟨bo_0, m_if0A ?_⟩)
                · rw [if_neg (fun z => z c)] at hS hF
                  have ult : skb t n (nmE t n r) < n := by
                    rcases Nat.lt_or_ge (skb t n (nmE t n r)) n with y | y
                    · exact y
                    · rw [ch_end y] at c; omega
                  rw [nI_1]
                  exact c_bk hP f _ (i + 1) (m + 1) _ _ s5 (by omega) (by omega) (by omega) (CT_mv T4 m5) m5.2.2.1 (by rw [m5.2.1 6 (by omega) (by omega), u_ne (by omega), u_ne (by omega)]; exact e63) (cB_mv cb4 m5) (fB_mv fb4 m5) hS hF
                · rw [if_pos c] at hF
                  exact hF 1 _ rfl s5 (fB_fl fb4 f5) f5.2.2.1 f5.2.2.2
              · have := nI_pos' (n := w) (by omega)
                rw [z] at this
                exact absurd this (by decide)
            · intro dr s3 f3
              rw [if_pos (show ¬ (48 ≤ ch t n (skb t n (nmE t n q)) ∧ ch t n (skb t n (nmE t n q)) ≤ 57) from dr)] at hF
              rw [u_eq]
              refine ⟨v13, v13, fun z => absurd rfl z, fun _ => m_if0A (hF 1 _ rfl (ac_u s3 36 v (-1)) ⟨fun y y1 y2 y3 => by rw [u_ne y3]; exact (fB_fl fb2 f3).1 y y1 y2 y3, by rw [u_ne (by omega)]; exact (fB_fl fb2 f3).2⟩ (by rw [u_ne (by omega)]; exact f3.2.2.1) (by rw [u_ne (by omega)]; exact f3.2.2.2))⟩
            · intro dr no s3 f3
              have dr' : 48 ≤ ch t n (skb t n (nmE t n q)) ∧ ch t n (skb t n (nmE t n q)) ≤ 57 := dr
              rw [if_neg (fun z => z dr')] at hF
              have br := nmV_bd (t := t) (n := n) (p := skb t n (nmE t n q))
              have w99 : ¬ nmV t n (skb t n (nmE t n q)) ≤ 99 := fun y => no ⟨nI_pos (by omega), nI_le (b := 99) y (by omega)⟩
              rw [if_pos w99] at hF
              rw [u_eq]
              refine ⟨v13, v13, fun z => absurd rfl z, fun _ => m_if0A (hF 2 _ rfl (ac_u s3 36 v (-1)) ⟨fun y y1 y2 y3 => by rw [u_ne y3]; exact (fB_fl fb2 f3).1 y y1 y2 y3, by rw [u_ne (by omega)]; exact (fB_fl fb2 f3).2⟩ (by rw [u_ne (by omega)]; exact f3.2.2.1) (by rw [u_ne (by omega)]; exact f3.2.2.2))⟩
          · have m6 : 6 ≤ m := by
              rcases Nat.lt_or_ge m 6 with y | y
              · exact absurd (nI_lt (b := 6) y (by omega)) l6
              · exact y
            rw [if_pos m6] at hF
            exact c_fail (kd := 3) m2.2.2.2 (fun s3 f3 => ⟨bo_0, m_if0A (hF 3 q rfl s3 (fB_fl fb2 f3) f3.2.2.1 f3.2.2.2)⟩)
        · rw [if_pos (show hasD d v m = true from by
            cases c : hasD d v m
            · exact absurd (hd.2 (by rw [c]; decide)) z
            · rfl)] at hF
          exact c_fail (kd := 2) m2.2.2.2 (fun s3 f3 => ⟨bo_0, m_if0A (hF 2 q rfl s3 (fB_fl fb2 f3) f3.2.2.1 f3.2.2.2)⟩)
      · rw [eq]
        intro dq s2 f2
        rw [if_pos (show ¬ (48 ≤ ch t n q ∧ ch t n q ≤ 57) from dq)] at hF
        exact ⟨fun _ => m_if0A (hF 1 q rfl s2 (fB_fl fb1 f2) f2.2.2.1 f2.2.2.2), fun z => absurd (by decide) z⟩
      · rw [eq]
        intro dq no s2 f2
        have dq' : 48 ≤ ch t n q ∧ ch t n q ≤ 57 := dq
        rw [if_neg (fun z => z dq')] at hF
        have bq := nmV_bd (t := t) (n := n) (p := q)
        have nv : ¬ (1 ≤ nmV t n q ∧ nmV t n q ≤ 12) := fun y => no ⟨nI_nlt (b := 1) y.1 (by omega), nI_le (b := 12) y.2 (by omega)⟩
        rw [if_pos nv] at hF
        exact ⟨fun _ => m_if0A (hF 2 q rfl s2 (fB_fl fb1 f2) f2.2.2.1 f2.2.2.2), fun z => absurd (by decide) z⟩
