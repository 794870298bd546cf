/-! PAID -/
def oT (s : ac_m) (b : Nat) : Int32 := bs (fun k => decide (0 < s 556 k)) 13 &&& (((1 : Int32) <<< (nI b &&& 31)) ^^^ (-1 : Int32))
noncomputable def cP (s : ac_m) (b n : Nat) : Bool := @decide (sub (oT s b) n ∧ WS s n = WW s b) (Classical.propDecidable _)
theorem cP_t {s : ac_m} {b n : Nat} (h : sub (oT s b) n ∧ WS s n = WW s b) : cP s b n = true := @decide_eq_true _ (Classical.propDecidable _) h
theorem cP_f {s : ac_m} {b n : Nat} (h : ¬ (sub (oT s b) n ∧ WS s n = WW s b)) : cP s b n = false := @decide_eq_false _ (Classical.propDecidable _) h
noncomputable def kP (s : ac_m) (b : Nat) : Nat → Int32
  | 0 => 0
  | n + 1 => if cP s b (n + 1) = true then kP s b n + 1 else kP s b n
noncomputable def fP (s : ac_m) (b : Nat) : Nat → Int32
  | 0 => -1
  | n + 1 => if cP s b (n + 1) = true then (if fP s b n = -1 then nI (n + 1) else if on (nI (n + 1)) < on (fP s b n) then nI (n + 1) else fP s b n) else fP s b n
theorem fP_ok {s : ac_m} {b : Nat} : ∀ n, fP s b n = -1 ∨ ∃ j, j ≤ n ∧ fP s b n = nI j
  | 0 => .inl rfl
  | n + 1 => by
    have ih := fP_ok (s := s) (b := b) n
    have ih' : fP s b n = -1 ∨ ∃ j, j ≤ n + 1 ∧ fP s b n = nI j := ih.imp id (fun ⟨j, h1, h2⟩ => ⟨j, by omega, h2⟩)
    rw [fP]
    split
    · split
      · exact .inr ⟨n + 1, Nat.le_refl _, rfl⟩
      · split
        · exact .inr ⟨n + 1, Nat.le_refl _, rfl⟩
        · exact ih'
    · exact ih'
theorem P_more {s : ac_m} {b m : Nat} : ∀ {n : Nat}, m ≤ n → (∀ k, m < k → k ≤ n → cP s b k = false) → kP s b n = kP s b m ∧ fP s b n = fP s b m
  | 0, h, _ => by rw [show m = 0 by omega]; exact ⟨rfl, rfl⟩
  | n + 1, h, hc => by
    by_cases e : m = n + 1
    · rw [e]; exact ⟨rfl, rfl⟩
    · rw [kP, fP, hc (n + 1) (by omega) (by omega), if_neg (by decide), if_neg (by decide)]
      exact P_more (by omega) (fun k k1 k2 => hc k k1 (by omega))
theorem e_paid {p q : Int32} {Q : Int32 → ac_m → Prop} {s : ac_m} : w_X12_paid p q Q s = gB2 p q 0 1 (fun Q s44 => w_X12_there 556 (fun r61 s61 => l_X12_paid_75 p q Q p q (r61 &&& (((1 : Int32) <<< (p &&& 31)) ^^^ (-1 : Int32))) 0 (-1) 1 s61) s44) Q s := rfl
theorem s_paid (p q : Int32) (s : ac_m) (i : Inv s) : simX thB (w_X11_paid p q) (w_X12_paid p q) s := by
  obtain ⟨B, hb, hB, hC⟩ := Inv_B i
  have hn := i.1.1.2.2.1
  have p4 := pow_le B (by omega)
  have p0 : 0 < 2 ^ B := Nat.pow_pos (by decide)
  unfold simX w_X11_paid
  refine gB2_no (G := w_X12_paid p q) (fun Q s z => by rw [e_paid]; exact z) i (fun h1 h2 h3 h4 => ?_)
  have h2' := h2
  rw [hB] at h2'
  obtain ⟨b, hbB, ef⟩ := of_in (by omega) h1 h2'
  subst ef
  have f0 : (0 : Int32) + nI b = nI b := by rw [← nI_0, nI_add, Nat.zero_add]
  have wb := WW_ok i (k := b) (by omega)
  have every : ∀ s' (Q : Int32 → ac_m → Prop), kp s s' → Q (nI (2 ^ B - 1)) s' → w_X12_everyBeast Q s' := by
    intro s' Q k' h
    unfold w_X12_everyBeast
    rw [k'.1 73 rfl, show s 73 (1 : Int32).toNatClampNeg = nI B from hB, pow_nI B (by omega)]
    exact h
  have B1 : 1 ≤ 2 ^ B - 1 := by
    have : 2 ^ 1 ≤ 2 ^ B := Nat.pow_le_pow_right (n := 2) (by decide) (by omega)
    omega
  by_cases th : s 556 b ≤ 0
  · have fin : ∀ s2, kp s s2 → ∀ v, (q = 0 → v = 0) → (¬ q = 0 → v = -1) → w_X12_paid (nI b) q (fun b s3 => v = b ∧ s3 69 0 = 0 ∧ Inv s3) s2 := by
      intro s2 k2 v v0 v1
      have k3 := k2.trans (kp_0 (s := s2))
      rw [e_paid]
      refine gB2_ok (by rw [k2.1 73 rfl]; exact hn) h1 (by rw [k2.1 73 rfl]; exact h2) h3 h4 (m_there ?_)
      unfold l_X12_paid_75
      intro P hP
      refine hP _ _ _ _ (every _ _ k3 ⟨fun z => absurd z (nI_nlt (b := 1) B1 (by omega)), fun _ => m_isTh (by omega) (fun _ => m_if0B ⟨fun q0 => ⟨v1 q0, u_eq, Inv_kp k3 i⟩, fun q0 => ⟨v0 q0, u_eq, Inv_kp k3 i⟩⟩) (fun z => absurd (by rw [k3.1 556 rfl]; exact th) z)⟩)
    unfold w_X2_findPayments
    have k1 : kp s (ac_u (ac_u s 62 4 0) 62 5 (-1)) := ((kp.refl s).u rfl (by decide)).u rfl (by decide)
    refine ⟨fun z => absurd z (nI_pos (by omega)), fun _ => ⟨fun z => absurd z (nI_ge (b := 12) (by omega) (by omega)), fun _ => c_isThere (by omega) (fun _ => m_if0A ⟨fun q0 => fin _ k1 _ (fun q1 => absurd q1 q0) (fun _ => u_eq), fun q0 => fin _ k1 _ (fun _ => by rw [u_at (by omega), u_eq]) (fun q1 => absurd q0 q1)⟩) (fun z => absurd ?_ z)⟩⟩
    rw [u_ne (by omega), u_ne (by omega), (Inv_m i (b := b) (by omega)).1]
    exact th
  · have hT : ∀ k, k < 32 → bt (oT s b) k = true → bt (bs (fun k => decide (0 < s 556 k)) 13) k = true := by
      intro k hk h
      unfold oT at h
      rw [b_and] at h
      cases c : bt (bs (fun k => decide (0 < s 556 k)) 13) k
      · rw [c] at h; cases h
      · rfl
    have hl : ∀ n, 2 ^ B - 1 < n → n ≤ 4095 → cP s b n = false := fun n k1 k2 => cP_f (fun z => sub_hi i hB hb hT k1 (by omega) z.1)
    have pm := P_more (s := s) (b := b) (m := 2 ^ B - 1) (n := 4095) (by omega) hl
    have fin : ∀ s2, kp s s2 → ∀ v, (q = 0 → v = kP s b 4095) → (¬ q = 0 → v = fP s b 4095) → w_X12_paid (nI b) q (fun b s3 => v = b ∧ s3 69 0 = 0 ∧ Inv s3) s2 := by
      intro s2 k2 v v0 v1
      have k3 := k2.trans (kp_0 (s := s2))
      rw [e_paid]
      refine gB2_ok (by rw [k2.1 73 rfl]; exact hn) h1 (by rw [k2.1 73 rfl]; exact h2) h3 h4 (m_there ?_)
      rw [k3.1 556 rfl]
      rw [pm.1] at v0
      rw [pm.2] at v1
      unfold l_X12_paid_75
      intro P hP
      refine loopUp (P := fun n => P (kP s b n) (fP s b n) (nI (n + 1)) (ac_u s2 69 0 0)) (2 ^ B - 1) ?_ ?_
      · exact hP _ _ _ _ (every _ _ k3 ⟨fun _ => ⟨fun q0 => ⟨v1 q0, u_eq, Inv_kp k3 i⟩, fun q0 => ⟨v0 q0, u_eq, Inv_kp k3 i⟩⟩, fun z => absurd (nI_lt (by omega) (by omega)) z⟩)
      · intro n hn ih
        refine hP _ _ _ _ (every _ _ k3 ⟨fun z => absurd z (nI_nlt (by omega) (by omega)), fun _ => m_isTh (by omega) (fun z => absurd z (by rw [k3.1 556 rfl]; exact th)) (fun _ => m_if1B ?_)⟩)
        rw [nI_1]
        have wsb := WS_bd i (n + 1)
        refine ⟨fun z => ?_, fun z => m_heavyS i k3 hB hb (by omega) ?_⟩
        · rw [kP, fP, cP_f (fun w => z w.1), if_neg (by decide), if_neg (by decide)] at ih
          exact ih
        · rw [f0, cl_nI (by omega), k3.1 556 rfl, wb.2, nI_eq (by omega) (by omega)]
          refine ⟨vp_in_nI (by omega) (by omega), fun y => ?_, fun y => ?_⟩
          · rw [kP, fP, cP_t ⟨z, y⟩, if_pos rfl, if_pos rfl] at ih
            refine ⟨fun x => ?_, fun x => m_on (m_on ⟨fun u => ?_, fun u => ?_⟩)⟩
            · rw [if_pos x] at ih; exact ih
            · rw [if_neg x, if_neg (by grind)] at ih; exact ih
            · rw [if_neg x, if_pos (by grind)] at ih; exact ih
          · rw [kP, fP, cP_f (fun w => y w.2), if_neg (by decide), if_neg (by decide)] at ih
            exact ih
    unfold w_X2_findPayments
    refine ⟨fun z => absurd z (nI_pos (by omega)), fun _ => ⟨fun z => absurd z (nI_ge (b := 12) (by omega) (by omega)), fun _ => c_isThere (by omega) (fun z => absurd z ?_) (fun _ => m_if1A ?_)⟩⟩
    · rw [u_ne (by omega), u_ne (by omega), (Inv_m i (b := b) (by omega)).1]
      exact th
    · have t0 : (0 : Int32).toNatClampNeg = 0 := rfl
      have t12 : (12 : Int32).toNatClampNeg = 12 := rfl
      rw [t0, t12]
      refine c_there ?_
      have e44 : (ac_cp (ac_u (ac_u s 62 4 0) 62 5 (-1)) 44 63 0 0 12) (42 + 2) = s (42 + 2) := by rw [cp_ne (by omega), u_ne (by omega), u_ne (by omega)]
      rw [e44, there_eq i]
      show w_X2_sumParts (oT s b) (fun s66 => l_X2_findPayments_71 (nI b) _ (nI b) (oT s b) 1 s66) _
      refine c_sumParts (p := fun k => nI (WW s k)) (fun k hk => ?_) (fun s3 f3 g3 => ?_)
      · rw [cp_in (by omega) (by omega), u_ne (by omega), u_ne (by omega), show 0 + (k - 0) = k by omega]
        exact (Inv_m i (b := k) (by omega)).1.trans (WW_ok i (by omega)).2
      · have sg : ∀ n, Sg (fun k => nI (WW s k)) n = nI (WS s n) := fun n => sm_tS (fun k _ => rfl)
        have r62 : s3 62 4 = kP s b 0 ∧ s3 62 5 = fP s b 0 := by
          rw [f3 62 (by omega), cp_ne (by omega), u_at (by omega), u_eq, u_eq]; exact ⟨rfl, rfl⟩
        have k3 : kp s s3 := by
          refine ⟨fun a ha => ?_, fun j _ => by rw [f3 69 (by omega), cp_ne (by omega), u_ne (by omega), u_ne (by omega)]⟩
          rw [f3 a (fun e => by subst e; cases ha), cp_ne (fun e => by subst e; cases ha), u_ne (fun e => by subst e; cases ha), u_ne (fun e => by subst e; cases ha)]
        unfold l_X2_findPayments_71
        intro P hP
        refine loopUp (P := fun n => ∀ s', kp s s' → s' 64 = s3 64 → s' 62 4 = kP s b n → s' 62 5 = fP s b n → P (nI (n + 1)) s') 4095 ?_ ?_ s3 k3 rfl r62.1 r62.2
        · intro s4 k4 e4 c4 g4
          exact hP _ _ ⟨fun _ => ⟨fun q0 => fin s4 k4 _ (fun q1 => absurd q1 q0) (fun _ => g4), fun q0 => fin s4 k4 _ (fun _ => c4) (fun q1 => absurd q0 q1)⟩, fun z => absurd (by decide) z⟩
        · intro n hn ih s4 k4 e4 c4 g4
          have wsb := WS_bd i (n + 1)
          refine hP _ _ ⟨fun z => absurd z (nI_ge (b := 4096) (by omega) (by omega)), fun _ => ?_⟩
          rw [nI_1, cl_nI (by omega), cl_nI (by omega)]
          refine ⟨fun z => ih s4 k4 e4 ?_ ?_, fun z => ⟨vp_in_nI (by omega) (by omega), vp_in_nI (by omega) (by omega), ?_⟩⟩
          · rw [kP, cP_f (fun w => z w.1), if_neg (by decide)]; exact c4
          · rw [fP, cP_f (fun w => z w.1), if_neg (by decide)]; exact g4
          · have e1 : s4 64 (n + 1) = nI (WS s (n + 1)) := by rw [e4]; exact (g3 (n + 1) (by omega) z).trans (sg _)
            have e2 : s4 44 b = nI (WW s b) := by rw [k4.1 44 rfl]; exact (Inv_m i (b := b) (by omega)).1.trans wb.2
            rw [e1, e2, nI_eq (by omega) (by omega)]
            refine ⟨fun y => ih s4 k4 e4 ?_ ?_, fun y => ?_⟩
            · rw [kP, cP_f (fun w => y w.2), if_neg (by decide)]; exact c4
            · rw [fP, cP_f (fun w => y w.2), if_neg (by decide)]; exact g4
            · have ct := cP_t ⟨z, y⟩
              unfold w_X2_notePayment
              have n54 : (5 : Nat) ≠ 4 := by omega
              have k5 : kp s (ac_u s4 62 4 (s4 62 4 + 1)) := k4.u rfl (by decide)
              rw [u_at n54, g4, c4]
              refine ⟨fun x => ih _ ?_ ?_ ?_ ?_, fun x => ?_⟩
              · rw [c4] at k5; exact k5.u rfl (by decide)
              · rw [u_ne (by omega), u_ne (by omega)]; exact e4
              · rw [u_at (by omega), u_eq, kP, ct, if_pos rfl]
              · rw [u_eq, fP, ct, if_pos rfl, if_pos x]
              · obtain ⟨j, hj, ej⟩ := (fP_ok (s := s) (b := b) n).resolve_left x
                refine c_bc (by omega) ?_
                show w_J6_bitCount_0f7a4 (ac_u s4 62 4 (kP s b n + 1) 62 5) _ _
                rw [u_at n54, g4]
                refine c_bcS ⟨j, by omega, ej⟩ ⟨fun u => ih _ ?_ ?_ ?_ ?_, fun u => ih _ ?_ ?_ ?_ ?_⟩
                · rw [c4] at k5; exact k5
                · rw [u_ne (by omega)]; exact e4
                · rw [u_eq, kP, ct, if_pos rfl]
                · rw [u_at (by omega), g4, fP, ct, if_pos rfl, if_neg x, if_neg (by grind)]
                · rw [c4] at k5; exact k5.u rfl (by decide)
                · rw [u_ne (by omega), u_ne (by omega)]; exact e4
                · rw [u_at (by omega), u_eq, kP, ct, if_pos rfl]
                · rw [u_eq, fP, ct, if_pos rfl, if_neg x, if_pos (by grind)]
