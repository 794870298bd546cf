/-! BOOK: the text read once and for all -/
def hasD (d : Nat → Nat) (v : Nat) : Nat → Bool
  | 0 => false
  | m + 1 => d m == v || hasD d v m
theorem hasD_iff {d : Nat → Nat} {v : Nat} : ∀ {m : Nat}, hasD d v m = true ↔ ∃ i, i < m ∧ d i = v
  | 0 => by
    constructor
    · intro h; cases h
    · rintro ⟨i, hi, _⟩; exact absurd hi (Nat.not_lt_zero i)
  | m + 1 => by
    have ih := hasD_iff (d := d) (v := v) (m := m)
    rw [hasD, Bool.or_eq_true, ih, beq_iff_eq]
    constructor
    · rintro (h | ⟨i, hi, e⟩)
      · exact ⟨m, by omega, h⟩
      · exact ⟨i, by omega, e⟩
    · rintro ⟨i, hi, e⟩
      by_cases c : i = m
      · left; rw [← c]; exact e
      · right; exact ⟨i, by omega, e⟩
def updN (f : Nat → Nat) (k v : Nat) : Nat → Nat := fun j => if j = k then v else f j
abbrev bkT : Type := (Nat × Nat) ⊕ (Nat × (Nat → Nat) × (Nat → Nat))
def bkO (t : Nat → Nat) (n : Nat) : Nat → Nat → Nat → (Nat → Nat) → (Nat → Nat) → bkT
  | 0, _, m, d, g => .inr (m, d, g)
  | f + 1, p, m, d, g =>
    if skb t n p = n then .inr (m, d, g)
    else if ¬ (48 ≤ ch t n (skb t n p) ∧ ch t n (skb t n p) ≤ 57) then .inl (1, skb t n p)
    else if ¬ (1 ≤ nmV t n (skb t n p) ∧ nmV t n (skb t n p) ≤ 12) then .inl (2, skb t n p)
    else if hasD d (nmV t n (skb t n p)) m = true then .inl (2, skb t n p)
    else if 6 ≤ m then .inl (3, skb t n p)
    else if ¬ (48 ≤ ch t n (skb t n (nmE t n (skb t n p))) ∧ ch t n (skb t n (nmE t n (skb t n p))) ≤ 57) then .inl (1, skb t n (nmE t n (skb t n p)))
    else if ¬ nmV t n (skb t n (nmE t n (skb t n p))) ≤ 99 then .inl (2, skb t n (nmE t n (skb t n p)))
    else if ¬ ch t n (skb t n (nmE t n (skb t n (nmE t n (skb t n p))))) = 59 then .inl (1, skb t n (nmE t n (skb t n (nmE t n (skb t n p)))))
    else bkO t n f (skb t n (nmE t n (skb t n (nmE t n (skb t n p)))) + 1) (m + 1) (updN d m (nmV t n (skb t n p))) (updN g m (nmV t n (skb t n (nmE t n (skb t n p)))))
/-- the class's draft -/
def cB (s : ac_m) (m : Nat) (d g : Nat → Nat) : Prop := m ≤ 6 ∧ s 35 1 = nI m ∧ (∀ e, e < 13 → s 36 e = -1 ∨ ∃ i, i < m ∧ d i = e ∧ s 36 e = nI (g i)) ∧ (∀ i, i < m → 1 ≤ d i ∧ d i ≤ 12 ∧ g i ≤ 99 ∧ s 36 (d i) = nI (g i))
def fB (s0 s : ac_m) : Prop := (∀ y, y ≠ 1 → y ≠ 35 → y ≠ 36 → s y = s0 y) ∧ s 1 1 = s0 1 1
theorem fB_mv {s0 s s' : ac_m} {p k : Nat} (h : fB s0 s) (m : mv s s' p k) : fB s0 s' := ⟨fun y y1 y2 y3 => (m.1 y y1).trans (h.1 y y1 y2 y3), (m.2.1 1 (by omega) (by omega)).trans h.2⟩
theorem fB_fl {s0 s s' : ac_m} {kd pl : Nat} (h : fB s0 s) (m : fl s s' kd pl) : fB s0 s' := ⟨fun y y1 y2 y3 => (m.1 y y1).trans (h.1 y y1 y2 y3), (m.2.1 1 (by omega) (by omega) (by omega) (by omega)).trans h.2⟩
theorem cB_mv {s s' : ac_m} {m p k : Nat} {d g : Nat → Nat} (h : cB s m d g) (v : mv s s' p k) : cB s' m d g := by
  unfold cB at h ⊢
  rw [v.1 35 (by omega), v.1 36 (by omega)]; exact h
theorem c_bk {t : Nat → Nat} {n : Nat} {Q : Int32 → ac_m → Prop} {s0 : ac_m} {P : Int32 → ac_m → Prop} (hP : ∀ (x2 : Int32) (s : ac_m), (((s 1 2) < x2 → (Q (1 : Int32) s)) ∧ (¬ (s 1 2) < x2 → (w_X10_ended (fun r15 s15 => (r15 = 0 → (w_X0_readLine (fun r25 s25 => (¬ r25 = 0 → (P (x2 + (1 : Int32)) s25)) ∧ (r25 = 0 → (Q (0 : Int32) s25))) s15)) ∧ (¬ r15 = 0 → (Q (1 : Int32) s15))) s))) → P x2 s) :
    ∀ (f p i m : Nat) (d g : Nat → Nat) (s : ac_m), f + i = n + 1 → i ≤ p → p ≤ n → CT s t n → s 1 3 = nI p → s 1 6 = -1 → cB s m d g → fB s0 s →
      (∀ m' d' g', bkO t n f p m d g = .inr (m', d', g') → ∀ s', fB s0 s' → s' 1 6 = -1 → cB s' m' d' g' → Q 1 s') → (∀ kd pl, bkO t n f p m d g = .inl (kd, pl) → ∀ s', fB s0 s' → s' 1 5 = nI kd → s' 1 6 = nI pl → Q 0 s') → P (nI i) s
  | 0, p, i, m, d, g, s, hf, hi, hp, _, _, _, _, _, _, _ => by omega
  | f + 1, p, i, m, d, g, s, hf, hi, hp, T, e3, e6, cb, fb, hS, hF => by
    have h6 := T.2.1.1
    have sk := skb_le' (t := t) hp
    refine hP _ _ ⟨fun z => absurd z (by rw [T.1]; exact nI_nlt (by omega) (by omega)), fun _ => ?_⟩
    rw [bkO] at hS hF
    refine c_ended T hp e3 (fun e s1 m1 => m_if1B ?_) (fun e s1 m1 => m_if0B ?_)
    · rw [if_pos e] at hS
      exact hS m d g rfl s1 (fB_mv fb m1) (by rw [m1.2.1 6 (by omega) (by omega)]; exact e6) (cB_mv cb m1)
    · rw [if_neg (by omega)] at hS hF
      generalize hq : skb t n p = q at *
      have eq : skb t n q = q := by rw [← hq]; exact skb_0 (by rw [hq]; exact sk.2.2)
      have T1 := CT_mv T m1
      have cb1 := cB_mv cb m1
      have fb1 := fB_mv fb m1
      have e61 : s1 1 6 = -1 := by rw [m1.2.1 6 (by omega) (by omega)]; exact e6
      unfold w_X0_readLine
      refine c_num T1 sk.2.1 m1.2.2.1 ?_ ?_ ?_
      · rw [eq]
        intro dq lo hi2 s2 m2
        have dq' : 48 ≤ ch t n q ∧ ch t n q ≤ 57 := dq
        rw [if_neg (fun z => z dq')] at hS hF
        have bq := nmV_bd (t := t) (n := n) (p := q)
        have v1 : 1 ≤ nmV t n q := by
          rcases Nat.lt_or_ge (nmV t n q) 1 with c | c
          · exact absurd (nI_lt (b := 1) c (by omega)) lo
          · exact c
        have v12 : nmV t n q ≤ 12 := (nI_leI (b := 12) (by omega) (by omega)).1 hi2
        rw [if_neg (fun z => z ⟨v1, v12⟩)] at hS hF
        generalize hv : nmV t n q = v at *
        have T2 := CT_mv T1 m2
        have cb2 := cB_mv cb1 m2
        have fb2 := fB_mv fb1 m2
        have e62 : s2 1 6 = -1 := by rw [m2.2.1 6 (by omega) (by omega)]; exact e61
        have v13 : vp_in (nI v) 13 := vp_in_nI (by omega) (by omega)
        have le := nmE_gt dq
        refine ⟨fun z => absurd z lo, fun _ => ⟨fun _ => ⟨v13, ?_⟩, fun z => absurd hi2 z⟩⟩
        rw [cl_nI (by omega)]
        have hd : s2 36 v = -1 ↔ ¬ hasD d v m = true := by
          rw [hasD_iff]
          constructor
          · rintro z ⟨j, hj, ej⟩
            have := (cb2.2.2.2 j hj).2.2.2
            rw [ej, z] at this
            have p0 := nI_pos' (n := g j) (by have := (cb2.2.2.2 j hj).2.2.1; omega)
            rw [← this] at p0
            exact absurd p0 (by decide)
          · intro z
            rcases cb2.2.2.1 v (by omega) with c | ⟨j, hj, ej, _⟩
            · exact c
            · exact absurd ⟨j, hj, ej⟩ z
        refine ⟨fun z => ?_, fun z => ?_⟩
        · rw [if_neg (hd.1 z)] at hS hF
          rw [cb2.2.1]
          refine ⟨fun l6 => ?_, fun l6 => ?_⟩
          · have m6 := (nI_ltI (b := 6) (by have := cb2.1; omega) (by omega)).1 l6
            rw [if_neg (by omega)] at hS hF
            have sk2 := skb_le' (t := t) (n := n) (p := nmE t n q) le.2
            refine c_num T2 le.2 m2.2.2.1 ?_ ?_ ?_
            · intro dr lo2 hi3 s3 m3
              have dr' : 48 ≤ ch t n (skb t n (nmE t n q)) ∧ ch t n (skb t n (nmE t n q)) ≤ 57 := dr
              rw [if_neg (fun z => z dr')] at hS hF
              have br := nmV_bd (t := t) (n := n) (p := skb t n (nmE t n q))
              have w99 : nmV t n (skb t n (nmE t n q)) ≤ 99 := (nI_leI (b := 99) (by omega) (by omega)).1 hi3
              rw [if_neg (fun z => z w99)] at hS hF
              have le2 := nmE_gt dr
              generalize skb t n (nmE t n q) = r at *
              generalize hw : nmV t n r = w at *
              have T3 := CT_mv T2 m3
              have cb3 := cB_mv cb2 m3
              have fb3 := fB_mv fb2 m3
              have e63 : s3 1 6 = -1 := by rw [m3.2.1 6 (by omega) (by omega)]; exact e62
              have n36 : (35 : Nat) ≠ 36 := by omega
              rw [u_eq]
              refine ⟨v13, v13, fun _ => ?_, fun z => ?_⟩
              · rw [u_ne n36, cb3.2.1, show nI m + (1:Int32) = nI (m+1) from nI_1 m]
                have T4 : CT (ac_u (ac_u s3 36 v (nI w)) 35 1 (nI (m + 1))) t n := ⟨by rw [u_ne (by omega), u_ne (by omega)]; exact T3.1, T3.2.1, fun j hj => by rw [u_ne (by omega), u_ne (by omega)]; exact T3.2.2 j hj⟩
                have fb4 : fB s0 (ac_u (ac_u s3 36 v (nI w)) 35 1 (nI (m + 1))) := ⟨fun y y1 y2 y3 => by rw [u_ne y2, u_ne y3]; exact fb3.1 y y1 y2 y3, by rw [u_ne (by omega), u_ne (by omega)]; exact fb3.2⟩
                have cb4 : cB (ac_u (ac_u s3 36 v (nI w)) 35 1 (nI (m + 1))) (m + 1) (updN d m v) (updN g m w) := by
                  obtain ⟨b1, b2, b3, b4⟩ := cb3
                  have nod : ∀ j, j < m → d j ≠ v := fun j hj ej => (hd.1 z) (hasD_iff.2 ⟨j, hj, ej⟩)
                  refine ⟨by omega, u_eq, fun e he => ?_, fun j hj => ?_⟩
                  · rw [u_ne (by omega)]
                    by_cases c : e = v
                    · right
                      refine ⟨m, by omega, ?_, ?_⟩
                      · unfold updN; rw [if_pos rfl, c]
                      · unfold updN; rw [if_pos rfl, c, u_eq]
                    · rw [u_at c]
                      rcases b3 e he with y | ⟨j, hj, ej, eg⟩
                      · exact .inl y
                      · refine .inr ⟨j, by omega, ?_, ?_⟩
                        · unfold updN; rw [if_neg (by omega)]; exact ej
                        · unfold updN; rw [if_neg (by omega)]; exact eg
                  · unfold updN
                    rw [u_ne (by omega)]
                    by_cases c : j = m
                    · rw [if_pos c, if_pos c, u_eq]; exact ⟨v1, v12, w99, rfl⟩
                    · rw [if_neg c, if_neg c]
                      have b5 := b4 j (by omega)
                      rw [u_at (nod j (by omega))]; exact b5
                have sk3 := skb_le' (t := t) (n := n) (p := nmE t n r) le2.2
                refine c_expects (c := 59) T4 le2.2 (by rw [u_ne (by omega), u_ne (by omega)]; exact m3.2.2.1) (by omega) (fun c s5 m5 => ⟨bo_1, m_if1A ?_⟩) (fun c s5 f5 => ⟨bo_0, m_if0A ?_⟩)
                · rw [if_neg (fun z => z c)] at hS hF
                  have ult : skb t n (nmE t n r) < n := by
                    rcases Nat.lt_or_ge (skb t n (nmE t n r)) n with y | y
                    · exact y
                    · rw [ch_end y] at c; omega
                  rw [nI_1]
                  exact c_bk hP f _ (i + 1) (m + 1) _ _ s5 (by omega) (by omega) (by omega) (CT_mv T4 m5) m5.2.2.1 (by rw [m5.2.1 6 (by omega) (by omega), u_ne (by omega), u_ne (by omega)]; exact e63) (cB_mv cb4 m5) (fB_mv fb4 m5) hS hF
                · rw [if_pos c] at hF
                  exact hF 1 _ rfl s5 (fB_fl fb4 f5) f5.2.2.1 f5.2.2.2
              · have := nI_pos' (n := w) (by omega)
                rw [z] at this
                exact absurd this (by decide)
            · intro dr s3 f3
              rw [if_pos (show ¬ (48 ≤ ch t n (skb t n (nmE t n q)) ∧ ch t n (skb t n (nmE t n q)) ≤ 57) from dr)] at hF
              rw [u_eq]
              refine ⟨v13, v13, fun z => absurd rfl z, fun _ => m_if0A (hF 1 _ rfl (ac_u s3 36 v (-1)) ⟨fun y y1 y2 y3 => by rw [u_ne y3]; exact (fB_fl fb2 f3).1 y y1 y2 y3, by rw [u_ne (by omega)]; exact (fB_fl fb2 f3).2⟩ (by rw [u_ne (by omega)]; exact f3.2.2.1) (by rw [u_ne (by omega)]; exact f3.2.2.2))⟩
            · intro dr no s3 f3
              have dr' : 48 ≤ ch t n (skb t n (nmE t n q)) ∧ ch t n (skb t n (nmE t n q)) ≤ 57 := dr
              rw [if_neg (fun z => z dr')] at hF
              have br := nmV_bd (t := t) (n := n) (p := skb t n (nmE t n q))
              have w99 : ¬ nmV t n (skb t n (nmE t n q)) ≤ 99 := fun y => no ⟨nI_pos (by omega), nI_le (b := 99) y (by omega)⟩
              rw [if_pos w99] at hF
              rw [u_eq]
              refine ⟨v13, v13, fun z => absurd rfl z, fun _ => m_if0A (hF 2 _ rfl (ac_u s3 36 v (-1)) ⟨fun y y1 y2 y3 => by rw [u_ne y3]; exact (fB_fl fb2 f3).1 y y1 y2 y3, by rw [u_ne (by omega)]; exact (fB_fl fb2 f3).2⟩ (by rw [u_ne (by omega)]; exact f3.2.2.1) (by rw [u_ne (by omega)]; exact f3.2.2.2))⟩
          · have m6 : 6 ≤ m := by
              rcases Nat.lt_or_ge m 6 with y | y
              · exact absurd (nI_lt (b := 6) y (by omega)) l6
              · exact y
            rw [if_pos m6] at hF
            exact c_fail (kd := 3) m2.2.2.2 (fun s3 f3 => ⟨bo_0, m_if0A (hF 3 q rfl s3 (fB_fl fb2 f3) f3.2.2.1 f3.2.2.2)⟩)
        · rw [if_pos (show hasD d v m = true from by
            cases c : hasD d v m
            · exact absurd (hd.2 (by rw [c]; decide)) z
            · rfl)] at hF
          exact c_fail (kd := 2) m2.2.2.2 (fun s3 f3 => ⟨bo_0, m_if0A (hF 2 q rfl s3 (fB_fl fb2 f3) f3.2.2.1 f3.2.2.2)⟩)
      · rw [eq]
        intro dq s2 f2
        rw [if_pos (show ¬ (48 ≤ ch t n q ∧ ch t n q ≤ 57) from dq)] at hF
        exact ⟨fun _ => m_if0A (hF 1 q rfl s2 (fB_fl fb1 f2) f2.2.2.1 f2.2.2.2), fun z => absurd (by decide) z⟩
      · rw [eq]
        intro dq no s2 f2
        have dq' : 48 ≤ ch t n q ∧ ch t n q ≤ 57 := dq
        rw [if_neg (fun z => z dq')] at hF
        have bq := nmV_bd (t := t) (n := n) (p := q)
        have nv : ¬ (1 ≤ nmV t n q ∧ nmV t n q ≤ 12) := fun y => no ⟨nI_nlt (b := 1) y.1 (by omega), nI_le (b := 12) y.2 (by omega)⟩
        rw [if_pos nv] at hF
        exact ⟨fun _ => m_if0A (hF 2 q rfl s2 (fB_fl fb1 f2) f2.2.2.1 f2.2.2.2), fun z => absurd (by decide) z⟩
/-! the reference's draft -/
def dB (s : ac_m) (m : Nat) (d g : Nat → Nat) : Prop := ∀ i, i < m → s (467 + i) 0 = nI (d i) ∧ s (467 + i) 1 = nI (g i)
def gB (s0 s : ac_m) : Prop := (∀ y, y ≠ 69 → ¬ (467 ≤ y ∧ y ≤ 472) → s y = s0 y) ∧ (∀ j, j ≠ 4 → j ≠ 5 → j ≠ 6 → s 69 j = s0 69 j)
theorem gB_mv {s0 s s' : ac_m} {p : Nat} (h : gB s0 s) (m : mvM s s' p) : gB s0 s' := ⟨fun y y1 y2 => (m.1 y y1).trans (h.1 y y1 y2), fun j j4 j5 j6 => (m.2.1 j j4).trans (h.2 j j4 j5 j6)⟩
theorem gB_fl {s0 s s' : ac_m} {n kd pl : Nat} (h : gB s0 s) (m : flM s s' n kd pl) : gB s0 s' := ⟨fun y y1 y2 => (m.1 y y1).trans (h.1 y y1 y2), fun j j4 j5 j6 => (m.2.1 j j4 j5 j6).trans (h.2 j j4 j5 j6)⟩
theorem dB_mv {s s' : ac_m} {p m : Nat} {d g : Nat → Nat} (h : dB s m d g) (v : mvM s s' p) : dB s' m d g := fun i hi => by rw [v.1 _ (by omega)]; exact h i hi
theorem MT_fl {s s' : ac_m} {t : Nat → Nat} {n kd pl : Nat} (h : MT s t n) (m : flM s s' n kd pl) : MT s' t n := ⟨by rw [m.2.1 2 (by omega) (by omega) (by omega)]; exact h.1, h.2.1, fun j hj => by rw [m.1 70 (by omega)]; exact h.2.2 j hj⟩
theorem m_has {x : Int32} {v : Nat} {Q : Int32 → ac_m → Prop} {s : ac_m} (hv : v < 32) (h1 : bt x v = true → Q 1 s) (h0 : bt x v = false → Q 0 s) : w_X12_has x (nI v) Q s := by
  unfold w_X12_has
  refine ⟨fun z => h0 ?_, fun z => h1 ((shr_bit hv).1 z)⟩
  cases c : bt x v
  · rfl
  · exact absurd ((shr_bit hv).2 c) z
def bkK (P : Int32 → Int32 → ac_m → Prop) (x2 x3 r76 : Int32) (s : ac_m) : Prop := w_X12_number (0 : Int32) (99 : Int32) (fun r128 s128 => w_X12_sign (59 : Int32) (fun s136 => (¬ (s136 69 5) = 0 → (w_X12_blanks (fun s177 => P x2 x3 s177) s136)) ∧ ((s136 69 5) = 0 → (vp_in x2 6 ∧ (vp_in x2 6 ∧ (w_X12_blanks (fun s177 => P (x2 + (1 : Int32)) (x3 ||| ((1 : Int32) <<< (r76 &&& 31))) s177) (ac_u (ac_u s136 (467 + x2.toNatClampNeg) (0 : Int32).toNatClampNeg r76) (467 + x2.toNatClampNeg) (1 : Int32).toNatClampNeg r128)))))) s128) s
def bkE (Q : Int32 → ac_m → Prop) (x2 : Int32) (s : ac_m) : Prop := ((s 69 5) = 0 → (w_X12_lays 466 6 467 2 459 6 460 x2 (fun s214 => Q x2 s214) (ac_u (ac_u s 69 3 (-1 : Int32)) 69 34 x2))) ∧ (¬ (s 69 5) = 0 → (w_X12_ends (fun r191 s191 => Q r191 s191) s))
def bkJ (P : Int32 → Int32 → ac_m → Prop) (a x2 x3 r76 : Int32) (s : ac_m) : Prop := (¬ (s 69 5) = 0 → bkK P x2 x3 r76 s) ∧ ((s 69 5) = 0 → ((¬ x2 = (6 : Int32) → bkK P x2 x3 r76 s) ∧ (x2 = (6 : Int32) → w_X12_wrong (3 : Int32) a (fun s121 => bkK P x2 x3 r76 s121) s)))
def bkH (Q : Int32 → ac_m → Prop) (P : Int32 → Int32 → ac_m → Prop) : Prop := ∀ (x2 x3 : Int32) (s : ac_m), ((¬ (s 69 5) = 0 → bkE Q x2 s) ∧ ((s 69 5) = 0 → (((s 69 2) ≤ (s 69 4) → bkE Q x2 s) ∧ (¬ (s 69 2) ≤ (s 69 4) → w_X12_number (1 : Int32) (12 : Int32) (fun r76 s76 => (¬ (s76 69 5) = 0 → bkJ P (s 69 4) x2 x3 r76 s76) ∧ ((s76 69 5) = 0 → (w_X12_has x3 r76 (fun r91 s91 => (r91 = 0 → bkJ P (s 69 4) x2 x3 r76 s91) ∧ (¬ r91 = 0 → (w_X12_wrong (2 : Int32) (s 69 4) (fun s101 => bkJ P (s 69 4) x2 x3 r76 s101) s91))) s76))) s)))) → P x2 x3 s
theorem m_bkF {t : Nat → Nat} {n kd pl : Nat} {Q : Int32 → ac_m → Prop} {P : Int32 → Int32 → ac_m → Prop} {x2 x3 r76 : Int32} {s0 s : ac_m} (hP : bkH Q P) (T : MT s t n) (hk : kd = 1 ∨ kd = 2 ∨ kd = 3) (e5 : s 69 5 = nI kd) (e6 : s 69 6 = nI pl) (e4 : ∃ r, r ≤ n ∧ s 69 4 = nI r) (gb : gB s0 s) (hF : ∀ s', gB s0 s' → Q (nI kd - 10) (ac_u s' 69 3 (nI pl))) : bkK P x2 x3 r76 s := by
  have ne : ¬ s 69 5 = 0 := by rw [e5]; exact nI_k hk
  obtain ⟨r, hr, e4⟩ := e4
  unfold bkK w_X12_number
  refine ⟨fun z => absurd z ne, fun _ => ?_⟩
  unfold w_X12_sign
  refine ⟨fun z => absurd z ne, fun _ => ⟨fun _ => ?_, fun z => absurd z ne⟩⟩
  refine m_blanks T hr e4 (fun s1 m1 => hP _ _ _ ?_)
  have e51 : s1 69 5 = nI kd := by rw [m1.2.1 5 (by omega)]; exact e5
  have ne1 : ¬ s1 69 5 = 0 := by rw [e51]; exact nI_k hk
  refine ⟨fun _ => ⟨fun z => absurd z ne1, fun _ => ?_⟩, fun z => absurd z ne1⟩
  unfold w_X12_ends
  have := hF s1 (gB_mv gb m1)
  rw [u_at (by omega), e51, m1.2.1 6 (by omega), e6]
  exact this
/-- the sign after a faulty number -/
theorem m_bkS {t : Nat → Nat} {n kd pl : Nat} {Q : Int32 → ac_m → Prop} {P : Int32 → Int32 → ac_m → Prop} {x2 x3 : Int32} {s0 s : ac_m} {A : ac_m → Prop} (hP : bkH Q P) (T : MT s t n) (hk : kd = 1 ∨ kd = 2 ∨ kd = 3) (e5 : s 69 5 = nI kd) (e6 : s 69 6 = nI pl) (e4 : ∃ r, r ≤ n ∧ s 69 4 = nI r) (gb : gB s0 s) (hF : ∀ s', gB s0 s' → Q (nI kd - 10) (ac_u s' 69 3 (nI pl))) : w_X12_sign (59 : Int32) (fun s136 => (¬ (s136 69 5) = 0 → (w_X12_blanks (fun s177 => P x2 x3 s177) s136)) ∧ ((s136 69 5) = 0 → A s136)) s := by
  have ne : ¬ s 69 5 = 0 := by rw [e5]; exact nI_k hk
  obtain ⟨r, hr, e4⟩ := e4
  unfold w_X12_sign
  refine ⟨fun z => absurd z ne, fun _ => ⟨fun _ => ?_, fun z => absurd z ne⟩⟩
  refine m_blanks T hr e4 (fun s1 m1 => hP _ _ _ ?_)
  have e51 : s1 69 5 = nI kd := by rw [m1.2.1 5 (by omega)]; exact e5
  have ne1 : ¬ s1 69 5 = 0 := by rw [e51]; exact nI_k hk
  refine ⟨fun _ => ⟨fun z => absurd z ne1, fun _ => ?_⟩, fun z => absurd z ne1⟩
  unfold w_X12_ends
  have := hF s1 (gB_mv gb m1)
  rw [u_at (by omega), e51, m1.2.1 6 (by omega), e6]
  exact this
theorem m_bkJ {t : Nat → Nat} {n kd pl : Nat} {Q : Int32 → ac_m → Prop} {P : Int32 → Int32 → ac_m → Prop} {a x2 x3 r76 : Int32} {s0 s : ac_m} (hP : bkH Q P) (T : MT s t n) (hk : kd = 1 ∨ kd = 2 ∨ kd = 3) (e5 : s 69 5 = nI kd) (e6 : s 69 6 = nI pl) (e4 : ∃ r, r ≤ n ∧ s 69 4 = nI r) (gb : gB s0 s) (hF : ∀ s', gB s0 s' → Q (nI kd - 10) (ac_u s' 69 3 (nI pl))) : bkJ P a x2 x3 r76 s := by
  have ne : ¬ s 69 5 = 0 := by rw [e5]; exact nI_k hk
  exact ⟨fun _ => m_bkF hP T hk e5 e6 e4 gb hF, fun z => absurd z ne⟩
theorem m_bk {t : Nat → Nat} {n : Nat} {Q : Int32 → ac_m → Prop} {P : Int32 → Int32 → ac_m → Prop} {s0 : ac_m} (hP : bkH Q P) :
    ∀ (f p m : Nat) (d g : Nat → Nat) (x3 : Int32) (s : ac_m), n + 1 ≤ f + p → p ≤ n → MT s t n → s 69 4 = nI (skb t n p) → s 69 5 = 0 → m ≤ 6 → (∀ v, v < 32 → bt x3 v = hasD d v m) → dB s m d g → gB s0 s →
      (∀ m' d' g', bkO t n f p m d g = .inr (m', d', g') → ∀ s', gB s0 s' → dB s' m' d' g' → w_X12_lays 466 6 467 2 459 6 460 (nI m') (fun s214 => Q (nI m') s214) (ac_u (ac_u s' 69 3 (-1 : Int32)) 69 34 (nI m'))) →
      (∀ kd pl, bkO t n f p m d g = .inl (kd, pl) → ∀ s', gB s0 s' → Q (nI kd - 10) (ac_u s' 69 3 (nI pl))) → P (nI m) x3 s
  | 0, p, m, d, g, x3, s, hf, hp, _, _, _, _, _, _, _, _, _ => by omega
  | f + 1, p, m, d, g, x3, s, hf, hp, T, e4, e5, hm, xb, db, gb, hS, hF => by
    have h6 := T.2.1.1
    have sk := skb_le' (t := t) hp
    rw [bkO] at hS hF
    refine hP _ _ _ ⟨fun z => absurd e5 z, fun _ => ⟨fun z => ?_, fun z => ?_⟩⟩
    · have e : skb t n p = n := by
        rw [T.1, e4] at z
        have := (nI_leI (by omega) (by omega)).1 z
        omega
      rw [if_pos e] at hS
      exact ⟨fun _ => hS m d g rfl s gb db, fun y => absurd e5 y⟩
    · have ne : ¬ skb t n p = n := fun e => z (by rw [T.1, e4, e]; exact Int32.le_refl _)
      rw [if_neg ne] at hS hF
      generalize hq : skb t n p = q at *
      have eq : skb t n q = q := by rw [← hq]; exact skb_0 (by rw [hq]; exact sk.2.2)
      refine m_num T sk.2.1 e4 e5 ?_ ?_ ?_
      · rw [eq]
        intro dq lo hi2 s2 m2
        have dq' : 48 ≤ ch t n q ∧ ch t n q ≤ 57 := dq
        rw [if_neg (fun z => z dq')] at hS hF
        have bq := nmV_bd (t := t) (n := n) (p := q)
        have v1 : 1 ≤ nmV t n q := by
          rcases Nat.lt_or_ge (nmV t n q) 1 with c | c
          · exact absurd (nI_lt (b := 1) c (by omega)) lo
          · exact c
        have v12 : nmV t n q ≤ 12 := (nI_leI (b := 12) (by omega) (by omega)).1 hi2
        rw [if_neg (fun z => z ⟨v1, v12⟩)] at hS hF
        generalize hv : nmV t n q = v at *
        have le := nmE_gt dq
        have T2 := MT_mv T m2
        have gb2 := gB_mv gb m2
        have db2 := dB_mv db m2
        have e52 : s2 69 5 = 0 := by rw [m2.2.1 5 (by omega)]; exact e5
        refine ⟨fun y => absurd e52 y, fun _ => m_has (by omega) (fun c => m_if1B ?_) (fun c => m_if0B ⟨fun y => absurd e52 y, fun _ => ⟨fun n6 => ?_, fun y6 => ?_⟩⟩)⟩
        · rw [if_pos (show hasD d v m = true by rw [← xb v (by omega)]; exact c)] at hF
          rw [e4]
          refine m_wrong0 (kd := 2) e52 m2.2.2 le.2 (fun s3 f3 _ => ?_)
          exact m_bkJ hP (MT_fl T2 f3) (by omega) f3.2.2.1 f3.2.2.2.1 f3.2.2.2.2 (gB_fl gb2 f3) (hF 2 q rfl)
        · have hd : ¬ hasD d v m = true := by rw [← xb v (by omega), c]; decide
          rw [if_neg hd] at hS hF
          have m6 : m < 6 := by
            rcases Nat.lt_or_ge m 6 with y | y
            · exact y
            · exact absurd (show nI m = 6 by rw [show m = 6 by omega]; rfl) n6
          rw [if_neg (by omega)] at hS hF
          have sk2 := skb_le' (t := t) (n := n) (p := nmE t n q) le.2
          unfold bkK
          refine m_num T2 le.2 m2.2.2 e52 ?_ ?_ ?_
          · intro dr lo2 hi3 s3 m3
            have dr' : 48 ≤ ch t n (skb t n (nmE t n q)) ∧ ch t n (skb t n (nmE t n q)) ≤ 57 := dr
            rw [if_neg (fun z => z dr')] at hS hF
            have br := nmV_bd (t := t) (n := n) (p := skb t n (nmE t n q))
            have w99 : nmV t n (skb t n (nmE t n q)) ≤ 99 := (nI_leI (b := 99) (by omega) (by omega)).1 hi3
            rw [if_neg (fun z => z w99)] at hS hF
            have le2 := nmE_gt dr
            generalize skb t n (nmE t n q) = r at *
            generalize hw : nmV t n r = w at *
            have T3 := MT_mv T2 m3
            have gb3 := gB_mv gb2 m3
            have db3 := dB_mv db2 m3
            have e53 : s3 69 5 = 0 := by rw [m3.2.1 5 (by omega)]; exact e52
            have sk3 := skb_le' (t := t) (n := n) (p := nmE t n r) le2.2
            refine m_sign (c := 59) T3 le2.2 m3.2.2 e53 (by omega) (fun c s4 m4 => ?_) (fun c s4 f4 => ?_)
            · rw [if_neg (fun z => z c)] at hS hF
              have e54 : s4 69 5 = 0 := by rw [m4.2.1 5 (by omega)]; exact e53
              have ult : skb t n (nmE t n r) < n := by
                rcases Nat.lt_or_ge (skb t n (nmE t n r)) n with y | y
                · exact y
                · rw [ch_end y] at c; omega
              have x6 : vp_in (nI m) 6 := vp_in_nI (by omega) (by omega)
              refine ⟨fun y => absurd e54 y, fun _ => ⟨x6, x6, ?_⟩⟩
              rw [cl_nI (by omega), show (0 : Int32).toNatClampNeg = 0 from rfl, show (1 : Int32).toNatClampNeg = 1 from rfl, show nI m + (1:Int32) = nI (m+1) from nI_1 m]
              have T4 := MT_mv T3 m4
              have T5 : MT (ac_u (ac_u s4 (467 + m) 0 (nI v)) (467 + m) 1 (nI w)) t n := ⟨by rw [u_ne (by omega), u_ne (by omega)]; exact T4.1, T4.2.1, fun j hj => by rw [u_ne (by omega), u_ne (by omega)]; exact T4.2.2 j hj⟩
              have gb5 : gB s0 (ac_u (ac_u s4 (467 + m) 0 (nI v)) (467 + m) 1 (nI w)) := ⟨fun y y1 y2 => by rw [u_ne (by omega), u_ne (by omega)]; exact (gB_mv gb3 m4).1 y y1 y2, fun j j4 j5 j6 => by rw [u_ne (by omega), u_ne (by omega)]; exact (gB_mv gb3 m4).2 j j4 j5 j6⟩
              have db5 : dB (ac_u (ac_u s4 (467 + m) 0 (nI v)) (467 + m) 1 (nI w)) (m + 1) (updN d m v) (updN g m w) := by
                intro i hi
                unfold updN
                by_cases c : i = m
                · rw [if_pos c, if_pos c, c]
                  exact ⟨by rw [u_at (by omega), u_eq], u_eq⟩
                · rw [if_neg c, if_neg c, u_ne (by omega), u_ne (by omega)]
                  exact dB_mv db3 m4 i (by omega)
              refine m_blanks T5 (p := skb t n (nmE t n r) + 1) (by omega) (by rw [u_ne (by omega), u_ne (by omega)]; exact m4.2.2) (fun s6 m6 => ?_)
              refine m_bk hP f _ (m + 1) _ _ _ s6 (by omega) (by omega) (MT_mv T5 m6) m6.2.2 ?_ (by omega) ?_ (dB_mv db5 m6) (gB_mv gb5 m6) hS hF
              · rw [m6.2.1 5 (by omega), u_ne (by omega), u_ne (by omega)]; exact e54
              · intro u hu
                rw [b_or, bt_bit (by omega) hu, xb u hu, hasD]
                have : hasD (updN d m v) u m = hasD d u m := by
                  rw [Bool.eq_iff_iff, hasD_iff, hasD_iff]
                  unfold updN
                  constructor
                  · rintro ⟨i, hi, e⟩; rw [if_neg (by omega)] at e; exact ⟨i, hi, e⟩
                  · rintro ⟨i, hi, e⟩; refine ⟨i, hi, ?_⟩; rw [if_neg (by omega)]; exact e
                rw [this, Bool.or_comm]
                congr 1
                unfold updN
                rw [if_pos rfl, Bool.eq_iff_iff, decide_eq_true_iff, beq_iff_eq]
                exact eq_comm
            · rw [if_pos c] at hF
              have ne4 : ¬ s4 69 5 = 0 := by rw [f4.2.2.1]; decide
              refine ⟨fun _ => ?_, fun y => absurd y ne4⟩
              obtain ⟨r4, hr4, e44⟩ := f4.2.2.2.2
              refine m_blanks (MT_fl T3 f4) hr4 e44 (fun s6 m6 => hP _ _ _ ?_)
              have e56 : s6 69 5 = nI 1 := by rw [m6.2.1 5 (by omega)]; exact f4.2.2.1
              have ne6 : ¬ s6 69 5 = 0 := by rw [e56]; decide
              refine ⟨fun _ => ⟨fun z => absurd z ne6, fun _ => ?_⟩, fun z => absurd z ne6⟩
              unfold w_X12_ends
              have := hF 1 _ rfl s6 (gB_mv (gB_fl gb3 f4) m6)
              rw [u_at (by omega), e56, m6.2.1 6 (by omega), f4.2.2.2.1]
              exact this
          · intro dr s3 f3
            rw [if_pos (show ¬ (48 ≤ ch t n (skb t n (nmE t n q)) ∧ ch t n (skb t n (nmE t n q)) ≤ 57) from dr)] at hF
            exact m_bkS hP (MT_fl T2 f3) (by omega) f3.2.2.1 f3.2.2.2.1 f3.2.2.2.2 (gB_fl gb2 f3) (hF 1 _ rfl)
          · intro dr no s3 f3
            have dr' : 48 ≤ ch t n (skb t n (nmE t n q)) ∧ ch t n (skb t n (nmE t n q)) ≤ 57 := dr
            rw [if_neg (fun z => z dr')] at hF
            have br := nmV_bd (t := t) (n := n) (p := skb t n (nmE t n q))
            have w99 : ¬ nmV t n (skb t n (nmE t n q)) ≤ 99 := fun y => no ⟨nI_pos (by omega), nI_le (b := 99) y (by omega)⟩
            rw [if_pos w99] at hF
            exact m_bkS hP (MT_fl T2 f3) (by omega) f3.2.2.1 f3.2.2.2.1 f3.2.2.2.2 (gB_fl gb2 f3) (hF 2 _ rfl)
        · have hd : ¬ hasD d v m = true := by rw [← xb v (by omega), c]; decide
          rw [if_neg hd] at hF
          have m6 : 6 ≤ m := by
            rcases Nat.lt_or_ge m 6 with y | y
            · exact absurd (nI_lt (b := 6) y (by omega)) (by rw [y6]; decide)
            · exact y
          rw [if_pos m6] at hF
          rw [e4]
          refine m_wrong0 (kd := 3) e52 m2.2.2 le.2 (fun s3 f3 _ => ?_)
          exact m_bkF hP (MT_fl T2 f3) (by omega) f3.2.2.1 f3.2.2.2.1 f3.2.2.2.2 (gB_fl gb2 f3) (hF 3 q rfl)
      · rw [eq]
        intro dq s2 f2
        rw [if_pos (show ¬ (48 ≤ ch t n q ∧ ch t n q ≤ 57) from dq)] at hF
        have ne2 : ¬ s2 69 5 = 0 := by rw [f2.2.2.1]; decide
        exact ⟨fun _ => m_bkJ hP (MT_fl T f2) (by omega) f2.2.2.1 f2.2.2.2.1 f2.2.2.2.2 (gB_fl gb f2) (hF 1 q rfl), fun y => absurd y ne2⟩
      · rw [eq]
        intro dq no s2 f2
        have dq' : 48 ≤ ch t n q ∧ ch t n q ≤ 57 := dq
        rw [if_neg (fun z => z dq')] at hF
        have bq := nmV_bd (t := t) (n := n) (p := q)
        have nv : ¬ (1 ≤ nmV t n q ∧ nmV t n q ≤ 12) := fun y => no ⟨nI_nlt (b := 1) y.1 (by omega), nI_le (b := 12) y.2 (by omega)⟩
        rw [if_pos nv] at hF
        have ne2 : ¬ s2 69 5 = 0 := by rw [f2.2.2.1]; decide
        exact ⟨fun _ => m_bkJ hP (MT_fl T f2) (by omega) f2.2.2.1 f2.2.2.2.1 f2.2.2.2.2 (gB_fl gb f2) (hF 2 q rfl), fun y => absurd y ne2⟩
/-! rows laid over rows -/
theorem m_lays {r1 n1 b1 l r2 n2 b2 m : Nat} {Q : ac_m → Prop} {s : ac_m} (h1 : m ≤ n1) (h2 : m ≤ n2) (k1 : n1 < 2147483647) (k2 : n2 < 2147483647) (hm : m < 2147483647) (hl : l < 2147483647) (ha : b1 + m ≤ b2 ∨ b2 + m ≤ b1)
    (h : ∀ s', (∀ y, ¬ (b2 ≤ y ∧ y < b2 + m) → s' y = s y) → (∀ k, k < m → (∀ j, j < l → s' (b2 + k) j = s (b1 + k) j)) → Q s') : w_X12_lays r1 n1 b1 l r2 n2 b2 (nI m) Q s := by
  unfold w_X12_lays l_X12_lays_2
  intro P hP
  suffices H : ∀ (f k : Nat) (s1 : ac_m), f + k = m → (∀ y, ¬ (b2 ≤ y ∧ y < b2 + k) → s1 y = s y) → (∀ i, i < k → (∀ j, j < l → s1 (b2 + i) j = s (b1 + i) j)) → P (nI k) s1 from H m 0 s rfl (fun _ _ => rfl) (fun i hi => absurd hi (Nat.not_lt_zero i))
  intro f
  induction f with
  | zero =>
    intro k s1 hk g1 g2
    have e : k = m := by omega
    subst e
    exact hP _ _ ⟨fun _ => h s1 g1 g2, fun z => absurd (Int32.le_refl _) z⟩
  | succ f ih =>
    intro k s1 hk g1 g2
    refine hP _ _ ⟨fun z => absurd z (nI_ge (by omega) (by omega)), fun _ => ?_⟩
    unfold l_X12_lays_10
    intro P2 hP2
    have v1 : vp_in (nI k) n1 := vp_in_nI (by omega) (by omega)
    have v2 : vp_in (nI k) n2 := vp_in_nI (by omega) (by omega)
    have cl : (nI k).toNatClampNeg = k := cl_nI (by omega)
    suffices H2 : ∀ (a j : Nat) (s2 : ac_m), a + j = l → (∀ y, y ≠ b2 + k → s2 y = s1 y) → (∀ i, i < j → s2 (b2 + k) i = s (b1 + k) i) → P2 (nI j) s2 from H2 l 0 s1 rfl (fun _ _ => rfl) (fun i hi => absurd hi (Nat.not_lt_zero i))
    intro a
    induction a with
    | zero =>
      intro j s2 hj q1 q2
      have e : j = l := by omega
      subst e
      refine hP2 _ _ ⟨v2, fun _ => ?_, fun z => absurd (Int32.le_refl _) z⟩
      rw [nI_1]
      refine ih (k + 1) s2 (by omega) (fun y hy => ?_) (fun i hi j hj => ?_)
      · rw [q1 y (by omega)]; exact g1 y (by omega)
      · by_cases c : i = k
        · rw [c]; exact q2 j hj
        · rw [q1 _ (by omega)]; exact g2 i (by omega) j hj
    | succ a ih2 =>
      intro j s2 hj q1 q2
      have vj : vp_in (nI j) l := vp_in_nI (by omega) (by omega)
      refine hP2 _ _ ⟨v2, fun z => absurd (show nI l ≤ nI j from z) (nI_ge (by omega) (by omega)), fun _ => ⟨v2, v1, vj, vj, ?_⟩⟩
      rw [cl, cl_nI (n := j) (by omega), nI_1]
      refine ih2 (j + 1) _ (by omega) (fun y hy => by rw [u_ne hy]; exact q1 y hy) (fun i hi => ?_)
      by_cases c : i = j
      · rw [c, u_eq, q1 _ (by omega), g1 _ (by omega)]
      · rw [u_at c]; exact q2 i (by omega)
/-! THE STEP -/
def gX (s1 s' : ac_m) : Prop := (∀ y, y ≠ 69 → ¬ (467 ≤ y ∧ y ≤ 472) → s' y = s1 y) ∧ (∀ j, j ≠ 0 → j ≠ 1 → j ≠ 2 → j ≠ 4 → j ≠ 5 → j ≠ 6 → j ≠ 7 → j ≠ 8 → s' 69 j = s1 69 j) ∧ s' 69 0 = 0 ∧ s' 69 1 = 0
theorem m_bookR {t : Nat → Nat} {n m : Nat} {Q : Int32 → ac_m → Prop} {s1 : ac_m} (T : okT t n) (hb : ∀ j, j < n → s1 70 j = nI (t j)) (em : s1 69 1 = nI m) (hm : m ≤ 600) (hn : n ≤ 60) (hnm : n ≤ m)
    (hS : ∀ m' d' g', bkO t n (n + 1) 0 0 (fun _ => 0) (fun _ => 0) = .inr (m', d', g') → ∀ s', gX s1 s' → dB s' m' d' g' → w_X12_lays 466 6 467 2 459 6 460 (nI m') (fun s214 => Q (nI m') s214) (ac_u (ac_u s' 69 3 (-1 : Int32)) 69 34 (nI m')))
    (hF : ∀ kd pl, bkO t n (n + 1) 0 0 (fun _ => 0) (fun _ => 0) = .inl (kd, pl) → ∀ s', gX s1 s' → Q (nI kd - 10) (ac_u s' 69 3 (nI pl))) : w_X12_book (nI n) Q s1 := by
  unfold w_X12_book
  rw [u_at (show 1 ≠ 0 by omega), em]
  refine m_in (fun _ _ => ?_) (fun z => absurd ⟨nI_pos' (by omega), nI_le hnm (by omega)⟩ z)
  refine m_if1B ⟨fun _ => ?_, fun z => absurd (nI_le (b := 60) hn (by omega)) z⟩
  refine m_bad0 u_eq (m_if0B ?_)
  refine m_starts T (fun j hj => by rw [u_ne (by omega)]; exact hb j hj) (fun s2 f2 g2 z1 T2 e4 e5 e6 e7 e8 => ?_)
  unfold l_X12_book_48
  intro P hP
  have gx : ∀ s', gB s2 s' → gX s1 s' := by
    intro s' h
    refine ⟨fun y y1 y2 => ?_, fun j j0 j1 j2 j4 j5 j6 j7 j8 => ?_, ?_, ?_⟩
    · rw [h.1 y y1 y2, f2 y y1, u_ne y1]
    · rw [h.2 j j4 j5 j6, g2 j j1 j2 j4 j5 j6 j7 j8, u_at j0]
    · rw [h.2 0 (by omega) (by omega) (by omega), g2 0 (by omega) (by omega) (by omega) (by omega) (by omega) (by omega) (by omega), u_eq]
    · rw [h.2 1 (by omega) (by omega) (by omega), z1]
  have H : bkH Q P := hP
  exact m_bk (s0 := s2) H (n + 1) 0 0 (fun _ => 0) (fun _ => 0) 0 s2 (by omega) (by omega) T2 e4 e5 (by omega) (fun v hv => by rw [b_0]; rfl) (fun i hi => absurd hi (Nat.not_lt_zero i)) ⟨fun _ _ _ => rfl, fun _ _ _ _ => rfl⟩
    (fun m' d' g' e s' h => hS m' d' g' e s' (gx s' h)) (fun kd pl e s' h => hF kd pl e s' (gx s' h))
theorem c_bookR {t : Nat → Nat} {n : Nat} {Q : Int32 → ac_m → Prop} {s : ac_m} (T : okT t n) (hb : ∀ j, j < n → s 2 j = by8 (nI (t j)))
    (hS : ∀ m' d' g', bkO t n (n + 1) 0 0 (fun _ => 0) (fun _ => 0) = .inr (m', d', g') → ∀ s', (∀ y, y ≠ 1 → y ≠ 35 → y ≠ 36 → s' y = s y) → s' 1 1 = 0 → s' 1 6 = -1 → cB s' m' d' g' → Q 1 s')
    (hF : ∀ kd pl, bkO t n (n + 1) 0 0 (fun _ => 0) (fun _ => 0) = .inl (kd, pl) → ∀ s', (∀ y, y ≠ 1 → y ≠ 35 → y ≠ 36 → s' y = s y) → s' 1 1 = 0 → s' 1 5 = nI kd → s' 1 6 = nI pl → Q 0 s') : w_X10_open (nI n) (fun s23 => w_X0_read Q s23) s := by
  refine c_open (fun s1 f1 z1 z2 z3 z5 z6 => ?_)
  unfold w_X0_read w_X0_clear
  refine c_fill (by omega) (fun s2 f2 g2 => ?_)
  unfold l_X0_read_6
  intro P hP
  have fr : ∀ s', fB (ac_u s2 35 1 0) s' → (∀ y, y ≠ 1 → y ≠ 35 → y ≠ 36 → s' y = s y) ∧ s' 1 1 = 0 := by
    intro s' h
    refine ⟨fun y y1 y2 y3 => ?_, ?_⟩
    · rw [h.1 y y1 y2 y3, u_ne y2, f2 y y3, f1 y y1]
    · rw [h.2, u_ne (by omega), f2 1 (by omega), z1]
  have c1 (j : Nat) : (ac_u s2 35 1 0) 1 j = s1 1 j := by rw [u_ne (by omega), f2 1 (by omega)]
  refine c_bk (s0 := ac_u s2 35 1 0) hP (n + 1) 0 0 0 (fun _ => 0) (fun _ => 0) _ (by omega) (by omega) (by omega) ⟨by rw [c1]; exact z2, T, fun j hj => ?_⟩ (by rw [c1]; exact z3) (by rw [c1]; exact z6) ⟨by omega, u_eq, fun e he => .inl ?_, fun i hi => absurd hi (Nat.not_lt_zero i)⟩ ⟨fun _ _ _ _ => rfl, rfl⟩
    (fun m' d' g' e s' h h6 cb => hS m' d' g' e s' (fr s' h).1 (fr s' h).2 h6 cb) (fun kd pl e s' h h5 h6 => hF kd pl e s' (fr s' h).1 (fr s' h).2 h5 h6)
  · rw [u_ne (by omega), f2 2 (by omega), f1 2 (by omega)]; exact hb j hj
  · rw [u_ne (by omega)]; exact g2 e he
theorem dr_bk : ∀ a, a < 473 → (a = 1 ∨ a = 69 ∨ a = 35 ∨ a = 36 ∨ (467 ≤ a ∧ a ≤ 472)) → isDr a = true := by decide +kernel
theorem s_book (p : Int32) (s : ac_m) (i : Inv s) : simX thA (w_X11_book p) (w_X12_book p) s := by
  obtain ⟨iH0, iM0, vM0, vB0, iL0, iB0, iT0, iP0, iX0⟩ := id i
  obtain ⟨t1, t2, t3, t4⟩ := iT0
  obtain ⟨m, hm, em⟩ := nI_of2 (M := 600) (n := 600) rfl (show ¬ s 69 1 < 0 by grind) t3
  unfold simX w_X11_book
  rw [t1, em]
  refine c_within (fun h1 h2 => ?_) (fun h => ?_)
  · have hp : p ≤ 60 ∧ p ≤ nI m := by
      by_cases c : (60 : Int32) < nI m
      · rw [if_pos c] at h2; grind
      · rw [if_neg c] at h2; grind
    obtain ⟨n, hn, rfl⟩ := nI_of2 (M := 60) (n := 60) rfl (show ¬ p < 0 by grind) hp.1
    have hnm : n ≤ m := (nI_leI (by omega) (by omega)).1 hp.2
    obtain ⟨T, hb70, hb2⟩ := tX_ok i em hm hnm
    refine c_bookR T hb2 (fun m' d' g' e s1 F z1 z6 cb => m_if1A ?_) (fun kd pl e s1 F z1 z5 z6 => m_if0A ?_)
    · have key : w_X12_book (nI n) (fun b s3 => nI m' = b ∧ s3 69 0 = 0 ∧ Inv s3) (ac_u (ac_cp s1 36 34 0 0 13) 33 1 (nI m')) := by
        refine m_bookR T (fun j hj => by rw [u_ne (by omega), cp_ne (by omega), F 70 (by omega) (by omega) (by omega)]; exact hb70 j hj) (by rw [u_ne (by omega), cp_ne (by omega), F 69 (by omega) (by omega) (by omega)]; exact em) hm hn hnm (fun m2 d2 g2 e2 s2 gx db => ?_) (fun kd pl e2 => absurd (e.symm.trans e2) (by intro z; cases z))
        cases e.symm.trans e2
        obtain ⟨c1, c2, c3, c4⟩ := cb
        refine m_lays (m := m') c1 c1 (by omega) (by omega) (by omega) (by omega) (by omega) (fun s3 f3 g3 => ?_)
        have W : ∀ y, (y ≠ 69 ∧ y ≠ 1 ∧ y ≠ 33 ∧ y ≠ 34 ∧ y ≠ 35 ∧ y ≠ 36 ∧ ¬ (460 ≤ y ∧ y ≤ 472)) → s3 y = s y := fun y hy => by
          rw [f3 y (by omega), u_ne (by omega), u_ne (by omega), gx.1 y (by omega) (by omega), u_ne (by omega), cp_ne (by omega), F y (by omega) (by omega) (by omega)]
        have V : ∀ j, j ≠ 0 → j ≠ 1 → j ≠ 2 → j ≠ 3 → j ≠ 4 → j ≠ 5 → j ≠ 6 → j ≠ 7 → j ≠ 8 → j ≠ 34 → s3 69 j = s 69 j := fun j j0 j1 j2 j3 j4 j5 j6 j7 j8 j34 => by
          rw [f3 69 (by omega), u_at j34, u_at j3, gx.2.1 j j0 j1 j2 j4 j5 j6 j7 j8, u_ne (by omega), cp_ne (by omega), F 69 (by omega) (by omega) (by omega)]
        have e0 : s3 69 0 = 0 := by rw [f3 69 (by omega), u_at (by omega), u_at (by omega)]; exact gx.2.2.1
        have e1 : s3 69 1 = 0 := by rw [f3 69 (by omega), u_at (by omega), u_at (by omega)]; exact gx.2.2.2
        have e3 : s3 69 3 = -1 := by rw [f3 69 (by omega), u_at (by omega), u_eq]
        have e34 : s3 69 34 = nI m' := by rw [f3 69 (by omega), u_eq]
        have r1 : s3 1 = s1 1 := by rw [f3 1 (by omega), u_ne (by omega), u_ne (by omega), gx.1 1 (by omega) (by omega), u_ne (by omega), cp_ne (by omega)]
        have r33 : s3 33 1 = nI m' := by rw [f3 33 (by omega), u_ne (by omega), u_ne (by omega), gx.1 33 (by omega) (by omega), u_eq]
        have r34 : ∀ e, e < 13 → s3 34 e = s1 36 e := fun e he => by rw [f3 34 (by omega), u_ne (by omega), u_ne (by omega), gx.1 34 (by omega) (by omega), u_ne (by omega), cp_in (by omega) (by omega), show 0 + (e - 0) = e by omega]
        have rl : ∀ k, k < m' → s3 (460 + k) 0 = nI (d' k) ∧ s3 (460 + k) 1 = nI (g' k) := fun k hk => by
          rw [g3 k hk 0 (by omega), g3 k hk 1 (by omega), u_ne (by omega), u_ne (by omega)]; exact db k hk
        refine ⟨rfl, e0, iH_f2 iH0 (fun a ha => W a (by omega)), ?_, ?_, ?_, iL_of iL0 (V 19 (by omega) (by omega) (by omega) (by omega) (by omega) (by omega) (by omega) (by omega) (by omega) (by omega)) (by rw [W 25 (by omega)]) (W 26 (by omega)) (fun j hj => W _ (by omega)), ?_, iT_0 (by rw [r1]; exact z1) e1, iP_f2 iP0 (fun a ha => W a (by omega)) (V 35 (by omega) (by omega) (by omega) (by omega) (by omega) (by omega) (by omega) (by omega) (by omega) (by omega)) (V 37 (by omega) (by omega) (by omega) (by omega) (by omega) (by omega) (by omega) (by omega) (by omega) (by omega)), ?_⟩
        · show rM _ 42 _
          rw [W 556 (by omega)]
          exact rM_fr (s := s) (fun j hj => W _ (by omega)) iM0
        · rw [W 73 (by omega), W 556 (by omega)]; exact vM0
        · rw [W 73 (by omega), W 556 (by omega)]; exact vB0
        · refine ⟨r33.trans e34.symm, by rw [e34]; exact nI_pos' (by omega), by rw [e34]; exact nI_le (b := 6) c1 (by omega), fun k hk lk => ?_, fun e he => ?_⟩
          · rw [e34] at lk
            have hkm := (nI_ltI (by omega) (by omega)).1 lk
            have d4 := c4 k hkm
            rw [(rl k hkm).1, (rl k hkm).2, cl_nI (by omega), r34 _ (by omega)]
            exact ⟨nI_le (a := 1) d4.1 (by omega), nI_le (b := 12) d4.2.1 (by omega), nI_pos' (by omega), nI_le (b := 99) d4.2.2.1 (by omega), d4.2.2.2⟩
          · rw [r34 e he]
            refine (c3 e he).imp id ?_
            rintro ⟨k, hk, ed, eg⟩
            refine ⟨k, by omega, by rw [e34]; exact nI_lt hk (by omega), ?_, ?_⟩
            · rw [(rl k hk).1, ed]
            · rw [(rl k hk).2, eg]
        · unfold iX
          rw [r1, z6, e3, W 0 (by omega), W 71 (by omega), V 36 (by omega) (by omega) (by omega) (by omega) (by omega) (by omega) (by omega) (by omega) (by omega) (by omega)]
          exact ⟨rfl, iX0.2.1, iX0.2.2.1, iX0.2.2.2⟩
      unfold w_X0_take
      have e35 : (ac_cp s1 36 34 (0 : Int32).toNatClampNeg (0 : Int32).toNatClampNeg (13 : Int32).toNatClampNeg) 35 1 = nI m' := by rw [cp_ne (by omega)]; exact cb.2.1
      show w_X12_book (nI n) (fun b s3 => (ac_u (ac_cp s1 36 34 (0 : Int32).toNatClampNeg (0 : Int32).toNatClampNeg (13 : Int32).toNatClampNeg) 33 1 ((ac_cp s1 36 34 (0 : Int32).toNatClampNeg (0 : Int32).toNatClampNeg (13 : Int32).toNatClampNeg) 35 1)) 33 1 = b ∧ s3 69 0 = 0 ∧ Inv s3) (ac_u (ac_cp s1 36 34 (0 : Int32).toNatClampNeg (0 : Int32).toNatClampNeg (13 : Int32).toNatClampNeg) 33 1 ((ac_cp s1 36 34 (0 : Int32).toNatClampNeg (0 : Int32).toNatClampNeg (13 : Int32).toNatClampNeg) 35 1))
      rw [e35, u_eq]
      exact key
    · have key : w_X12_book (nI n) (fun b s3 => nI kd - 10 = b ∧ s3 69 0 = 0 ∧ Inv s3) s1 := by
        refine m_bookR T (fun j hj => by rw [F 70 (by omega) (by omega) (by omega)]; exact hb70 j hj) (by rw [F 69 (by omega) (by omega) (by omega)]; exact em) hm hn hnm (fun m2 d2 g2 e2 => absurd (e.symm.trans e2) (by intro z; cases z)) (fun kd2 pl2 e2 s2 gx => ?_)
        cases e.symm.trans e2
        refine ⟨rfl, by rw [u_at (by omega)]; exact gx.2.2.1, Inv_dr i (fun a ha => ?_) (fun j hj => ?_) ?_ ?_ ?_⟩
        · have na : ¬ (a = 1 ∨ a = 69 ∨ a = 35 ∨ a = 36 ∨ (467 ≤ a ∧ a ≤ 472)) := fun z => by
            rw [dr_bk a (by omega) z] at ha; cases ha
          rw [u_ne (by omega), gx.1 a (by omega) (by omega), F a (by omega) (by omega) (by omega)]
        · rw [u_at (by omega), gx.2.1 j (by omega) (by omega) (by omega) (by omega) (by omega) (by omega) (by omega) (by omega), F 69 (by omega) (by omega) (by omega)]
        · rw [u_ne (by omega), gx.1 1 (by omega) (by omega)]; exact z1
        · rw [u_at (by omega)]; exact gx.2.2.2
        · rw [u_ne (by omega), gx.1 1 (by omega) (by omega), u_eq]; exact z6
      unfold w_X10_faultAnswer
      show w_X12_book (nI n) (fun b s3 => s1 1 5 - 10 = b ∧ s3 69 0 = 0 ∧ Inv s3) s1
      rw [z5]
      exact key
  · unfold w_X12_book
    rw [u_at (show 1 ≠ 0 by omega), u_ne (show 69 ≠ 0 by omega), em]
    have fin : w_X12_bad (1 : Int32) (1 : Int32) (1 : Int32) (fun r31 s31 => (r31 = 0 → (w_X12_starts p (fun s41 => l_X12_book_48 p (fun _ s2 => thA "java/lang/IllegalArgumentException" (s2 69 0) ∧ Inv s2) (0 : Int32) (0 : Int32) s41) s31)) ∧ (¬ r31 = 0 → (thA "java/lang/IllegalArgumentException" (s31 69 0) ∧ Inv s31))) (ac_u (ac_u s 0 16 (s 0 16 + 1)) 69 0 0) := m_bad1 u_eq (by decide) in2_1 (m_if1B ⟨⟨rfl, bad_69⟩, Inv_bad1 i⟩)
    refine m_in (fun a b => m_if1B ⟨fun z => absurd ⟨a, ?_⟩ h, fun _ => fin⟩) (fun _ => m_if0B fin)
    by_cases c : (60 : Int32) < nI m
    · rw [if_pos c]; exact z
    · rw [if_neg c]; exact b
