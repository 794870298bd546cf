def wkP (p2 p3 p4 : Int32) (Q : ac_m → Prop) (Rc : Int32 → Int32 → Int32 → (ac_m → Prop) → ac_m → Prop) (f3 f4 : Int32) (P : Int32 → ac_m → Prop) : Prop := ∀ (x5 : Int32) (s : ac_m), ((f3 ≤ x5 → (Q s)) ∧ (¬ f3 ≤ x5 → (((200 : Int32) ≤ (s 37 5) → (Q s)) ∧ (¬ (200 : Int32) ≤ (s 37 5) → (vp_in x5 150 ∧ ((¬ ((ac_u s 37 5 ((s 37 5) + (1 : Int32))) 38 x5.toNatClampNeg) = (6 : Int32) → (vp_in x5 150 ∧ (vp_in x5 150 ∧ (vp_in x5 150 ∧ (w_X7_isDone ((ac_u s 37 5 ((s 37 5) + (1 : Int32))) 38 x5.toNatClampNeg) ((ac_u s 37 5 ((s 37 5) + (1 : Int32))) 39 x5.toNatClampNeg) ((ac_u s 37 5 ((s 37 5) + (1 : Int32))) 40 x5.toNatClampNeg) (fun r136 s136 => (r136 = 0 → (vp_in x5 150 ∧ (∀ y179 : Int32, y179 = (if (x5 + (1 : Int32)) < ((ac_u s136 37 7 ((s136 37 7) + (1 : Int32))) 41 x5.toNatClampNeg) then ((ac_u s136 37 7 ((s136 37 7) + (1 : Int32))) 41 x5.toNatClampNeg) else (x5 + (1 : Int32))) → (P y179 (ac_u s136 37 7 ((s136 37 7) + (1 : Int32))))))) ∧ (¬ r136 = 0 → (vp_in x5 150 ∧ (∀ y179 : Int32, y179 = (if (x5 + (1 : Int32)) < ((ac_u s136 37 6 ((s136 37 6) + (1 : Int32))) 41 x5.toNatClampNeg) then ((ac_u s136 37 6 ((s136 37 6) + (1 : Int32))) 41 x5.toNatClampNeg) else (x5 + (1 : Int32))) → (P y179 (ac_u s136 37 6 ((s136 37 6) + (1 : Int32)))))))) (ac_u s 37 5 ((s 37 5) + (1 : Int32)))))))) ∧ (((ac_u s 37 5 ((s 37 5) + (1 : Int32))) 38 x5.toNatClampNeg) = (6 : Int32) → (l_X7_carryOut_56 p2 p3 p4 Q Rc (fun  sk56 => vp_in x5 150 ∧ (∀ y179 : Int32, y179 = (if (x5 + (1 : Int32)) < (sk56 41 x5.toNatClampNeg) then (sk56 41 x5.toNatClampNeg) else (x5 + (1 : Int32))) → (P y179 sk56))) f3 f4 x5  (0 : Int32) (ac_u s 37 5 ((s 37 5) + (1 : Int32))))))))))) → P x5 s
def wkP2 (Rc : Int32 → Int32 → Int32 → (ac_m → Prop) → ac_m → Prop) (K111 : ac_m → Prop) (f4 f5 : Int32) (P : Int32 → ac_m → Prop) : Prop := ∀ (x6 : Int32) (s : ac_m), (vp_in f5 150 ∧ (((s 39 f5.toNatClampNeg) ≤ x6 → (K111  s)) ∧ (¬ (s 39 f5.toNatClampNeg) ≤ x6 → (((200 : Int32) ≤ (s 37 5) → (K111  s)) ∧ (¬ (200 : Int32) ≤ (s 37 5) → (((6 : Int32) ≤ f4 → (K111  s)) ∧ (¬ (6 : Int32) ≤ f4 → (vp_in f5 150 ∧ (Rc (f5 + (1 : Int32)) (s 41 f5.toNatClampNeg) (f4 + (1 : Int32)) (fun s102 => P (x6 + (1 : Int32)) s102) s))))))))) → P x6 s
def wkQ (p1 p2 : Int32) (Q : ac_m → Prop) (Rg : Int32 → Int32 → (ac_m → Prop) → ac_m → Prop) (f2 : Int32) (P : Int32 → ac_m → Prop) : Prop := ∀ (x3 : Int32) (s : ac_m), ((f2 ≤ x3 → (Q s)) ∧ (¬ f2 ≤ x3 → (((200 : Int32) ≤ (s 69 39) → (Q s)) ∧ (¬ (200 : Int32) ≤ (s 69 39) → (vp_in x3 80 ∧ ((¬ ((ac_u s 69 39 ((s 69 39) + (1 : Int32))) (476 + x3.toNatClampNeg) (0 : Int32).toNatClampNeg) = (6 : Int32) → (vp_in x3 80 ∧ (w_X12_does 556 (476 + x3.toNatClampNeg) (fun r101 s101 => (r101 = 0 → ((r101 = 0 → (vp_in x3 80 ∧ (∀ y152 : Int32, y152 = ((ac_u (ac_u s101 69 40 ((s101 69 40) + (0 : Int32))) 69 36 (((ac_u s101 69 40 ((s101 69 40) + (0 : Int32))) 69 36) + (1 : Int32))) (476 + x3.toNatClampNeg) (3 : Int32).toNatClampNeg) → (P y152 (ac_u (ac_u s101 69 40 ((s101 69 40) + (0 : Int32))) 69 36 (((ac_u s101 69 40 ((s101 69 40) + (0 : Int32))) 69 36) + (1 : Int32))))))) ∧ (¬ r101 = 0 → (vp_in x3 80 ∧ (∀ y152 : Int32, y152 = ((ac_u (ac_u s101 69 40 ((s101 69 40) + (0 : Int32))) 69 36 (((ac_u s101 69 40 ((s101 69 40) + (0 : Int32))) 69 36) + (0 : Int32))) (476 + x3.toNatClampNeg) (3 : Int32).toNatClampNeg) → (P y152 (ac_u (ac_u s101 69 40 ((s101 69 40) + (0 : Int32))) 69 36 (((ac_u s101 69 40 ((s101 69 40) + (0 : Int32))) 69 36) + (0 : Int32))))))))) ∧ (¬ r101 = 0 → ((r101 = 0 → (vp_in x3 80 ∧ (∀ y152 : Int32, y152 = ((ac_u (ac_u s101 69 40 ((s101 69 40) + (1 : Int32))) 69 36 (((ac_u s101 69 40 ((s101 69 40) + (1 : Int32))) 69 36) + (1 : Int32))) (476 + x3.toNatClampNeg) (3 : Int32).toNatClampNeg) → (P y152 (ac_u (ac_u s101 69 40 ((s101 69 40) + (1 : Int32))) 69 36 (((ac_u s101 69 40 ((s101 69 40) + (1 : Int32))) 69 36) + (1 : Int32))))))) ∧ (¬ r101 = 0 → (vp_in x3 80 ∧ (∀ y152 : Int32, y152 = ((ac_u (ac_u s101 69 40 ((s101 69 40) + (1 : Int32))) 69 36 (((ac_u s101 69 40 ((s101 69 40) + (1 : Int32))) 69 36) + (0 : Int32))) (476 + x3.toNatClampNeg) (3 : Int32).toNatClampNeg) → (P y152 (ac_u (ac_u s101 69 40 ((s101 69 40) + (1 : Int32))) 69 36 (((ac_u s101 69 40 ((s101 69 40) + (1 : Int32))) 69 36) + (0 : Int32)))))))))) (ac_u s 69 39 ((s 69 39) + (1 : Int32)))))) ∧ (((ac_u s 69 39 ((s 69 39) + (1 : Int32))) (476 + x3.toNatClampNeg) (0 : Int32).toNatClampNeg) = (6 : Int32) → (l_X12_goes_43 p1 p2 Q Rg (fun  sk43 => vp_in x3 80 ∧ (P (sk43 (476 + x3.toNatClampNeg) (3 : Int32).toNatClampNeg) sk43)) f2 x3  (0 : Int32) (ac_u s 69 39 ((s 69 39) + (1 : Int32))))))))))) → P x3 s
def wkQ2 (Rg : Int32 → Int32 → (ac_m → Prop) → ac_m → Prop) (K87 : ac_m → Prop) (f3 : Int32) (P : Int32 → ac_m → Prop) : Prop := ∀ (x4 : Int32) (s : ac_m), (vp_in f3 80 ∧ (((s (476 + f3.toNatClampNeg) (1 : Int32).toNatClampNeg) ≤ x4 → (K87  s)) ∧ (¬ (s (476 + f3.toNatClampNeg) (1 : Int32).toNatClampNeg) ≤ x4 → (((200 : Int32) ≤ (s 69 39) → (K87  s)) ∧ (¬ (200 : Int32) ≤ (s 69 39) → (vp_in f3 80 ∧ (Rg (f3 + (1 : Int32)) (s (476 + f3.toNatClampNeg) (3 : Int32).toNatClampNeg) (fun s78 => P (x4 + (1 : Int32)) s78) s))))))) → P x4 s
/-- how the steps lie: at depth d, from lo to hi -/
def wf (w : Nat → Nat → Int32) : Nat → Nat → Nat → Nat → Prop
  | 0, _, lo, hi => lo = hi
  | f + 1, d, lo, hi => lo = hi ∨ ∃ j, lo < j ∧ j ≤ hi ∧ w 3 lo = nI j ∧ (w 0 lo = 6 → d < 6 ∧ wf w f (d + 1) (lo + 1) j) ∧ wf w f d j hi
def clS (s0 : ac_m) (c : Nat) (w : Nat → Nat → Int32) (s : ac_m) (x : ro) (n m r : Nat) : Prop := SF s0 s ∧ (∀ k, k < 4 → ∀ i, i < c → s (38 + k) i = w k i) ∧ rM s 42 x ∧ s 37 5 = nI n ∧ s 37 6 = nI m ∧ s 37 7 = nI r
def fC (s s' : ac_m) : Prop := (∀ y, y ≠ 27 → y ≠ 28 → y ≠ 37 → (y < 42 ∨ 49 < y) → s' y = s y) ∧ s' 37 4 = s 37 4
def rfS (s0 : ac_m) (c : Nat) (w : Nat → Nat → Int32) (s : ac_m) (x : ro) (n m r : Nat) : Prop := SF s0 s ∧ (∀ i, i < c → s (476 + i) 0 = w 0 i ∧ (w 0 i ≠ 5 → s (476 + i) 1 = w 1 i) ∧ ((w 0 i = 1 ∨ w 0 i = 4) → s (476 + i) 2 = w 2 i) ∧ s (476 + i) 3 = w 3 i) ∧ s 556 = x ∧ s 69 39 = nI n ∧ s 69 40 = nI m ∧ s 69 36 = nI r
def fM (s s' : ac_m) : Prop := (∀ y, y ≠ 473 → y ≠ 474 → y ≠ 558 → y ≠ 556 → y ≠ 69 → s' y = s y) ∧ (∀ j, j ≠ 39 → j ≠ 40 → j ≠ 36 → s' 69 j = s 69 j)
theorem fC.trans {s s1 s2 : ac_m} (h : fC s s1) (k : fC s1 s2) : fC s s2 := ⟨fun y a b c d => (k.1 y a b c d).trans (h.1 y a b c d), k.2.trans h.2⟩
theorem fM.trans {s s1 s2 : ac_m} (h : fM s s1) (k : fM s1 s2) : fM s s2 := ⟨fun y a b c d e => (k.1 y a b c d e).trans (h.1 y a b c d e), fun j a b c => (k.2 j a b c).trans (h.2 j a b c)⟩
theorem fC.rf {s : ac_m} : fC s s := ⟨fun _ _ _ _ _ => rfl, rfl⟩
theorem fM.rf {s : ac_m} : fM s s := ⟨fun _ _ _ _ _ _ => rfl, fun _ _ _ _ => rfl⟩
theorem SF_C {s0 s s' : ac_m} (h : SF s0 s) (f : fC s s') : SF s0 s' := ⟨fun y hy => by rw [f.1 y (by unfold wkSt at hy; omega) (by unfold wkSt at hy; omega) (by unfold wkSt at hy; omega) (by unfold wkSt at hy; omega)]; exact h.1 y hy, by rw [f.1 69 (by omega) (by omega) (by omega) (by omega)]; exact h.2⟩
theorem SF_M {s0 s s' : ac_m} (h : SF s0 s) (f : fM s s') : SF s0 s' := ⟨fun y hy => by rw [f.1 y (by unfold wkSt at hy; omega) (by unfold wkSt at hy; omega) (by unfold wkSt at hy; omega) (by unfold wkSt at hy; omega) (by unfold wkSt at hy; omega)]; exact h.1 y hy, by rw [f.2 19 (by omega) (by omega) (by omega)]; exact h.2⟩
theorem fC_37 {s s' : ac_m} {j : Nat} {v : Int32} (h : fC s s') (hj : j ≠ 4) : fC s (ac_u s' 37 j v) := ⟨fun y a b c d => by rw [u_ne c]; exact h.1 y a b c d, by rw [u_at (Ne.symm hj)]; exact h.2⟩
theorem fM_69 {s s' : ac_m} {j : Nat} {v : Int32} (h : fM s s') (hj : j = 39 ∨ j = 40 ∨ j = 36) : fM s (ac_u s' 69 j v) := ⟨fun y a b c d e => by rw [u_ne e]; exact h.1 y a b c d e, fun k a b c => by rw [u_at (by omega)]; exact h.2 k a b c⟩
theorem clS_5 {s0 s : ac_m} {c : Nat} {w : Nat → Nat → Int32} {x : ro} {n m r n' : Nat} (h : clS s0 c w s x n m r) : clS s0 c w (ac_u s 37 5 (nI n')) x n' m r := by
  obtain ⟨h1, h2, h3, h4, h5, h6⟩ := h
  exact ⟨SF_C h1 (fC_37 fC.rf (by omega)), fun k hk i hi => by rw [u_ne (by omega)]; exact h2 k hk i hi, rM_un h3 (fun y hy => u_ne (by omega)), u_eq, by rw [u_at (by omega)]; exact h5, by rw [u_at (by omega)]; exact h6⟩
theorem rfS_39 {s0 s : ac_m} {c : Nat} {w : Nat → Nat → Int32} {x : ro} {n m r n' : Nat} (hc : c ≤ 79) (h : rfS s0 c w s x n m r) : rfS s0 c w (ac_u s 69 39 (nI n')) x n' m r := by
  obtain ⟨h1, h2, h3, h4, h5, h6⟩ := h
  exact ⟨SF_M h1 (fM_69 fM.rf (by omega)), fun i hi => by rw [u_ne (by omega)]; exact h2 i hi, by rw [u_ne (by omega)]; exact h3, u_eq, by rw [u_at (by omega)]; exact h5, by rw [u_at (by omega)]; exact h6⟩
def wkCl (s0 : ac_m) (c : Nat) (w : Nat → Nat → Int32) (d lo hi : Nat) (x : ro) (n m r : Nat) (x' : ro) (n' m' r' : Nat) : Prop := ∀ (K : Nat) (p2 p3 p4 : Int32) (Q : ac_m → Prop) (P : Int32 → ac_m → Prop), 8 ≤ K + 1 + d → wkP p2 p3 p4 Q (tk_X7_carryOut K) (nI hi) (nI d) P → ∀ s, clS s0 c w s x n m r → (∀ s', fC s s' → clS s0 c w s' x' n' m' r' → Q s') → P (nI lo) s
def wkRf (s0 : ac_m) (c : Nat) (w : Nat → Nat → Int32) (d lo hi : Nat) (x : ro) (n m r : Nat) (x' : ro) (n' m' r' : Nat) : Prop := ∀ (K : Nat) (p1 p2 : Int32) (Q : ac_m → Prop) (P : Int32 → ac_m → Prop), 8 ≤ K + 1 + d → wkQ p1 p2 Q (tk_X12_goes K) (nI hi) P → ∀ s, rfS s0 c w s x n m r → (∀ s', fM s s' → rfS s0 c w s' x' n' m' r' → Q s') → P (nI lo) s
def wkRun (s0 : ac_m) (F B c : Nat) (w : Nat → Nat → Int32) (d lo hi : Nat) (x : ro) (n m r : Nat) : Prop := ∃ (x' : ro) (n' m' r' : Nat), wkX F B x' ∧ (n' ≤ 200 ∧ m' ≤ n' ∧ r' ≤ n') ∧ wkCl s0 c w d lo hi x n m r x' n' m' r' ∧ wkRf s0 c w d lo hi x n m r x' n' m' r'
/-- what is read again and again -/
theorem wk_rep {s0 : ac_m} {F B c d lo hi t : Nat} {w : Nat → Nat → Int32} (hd : d < 6) (hc : c ≤ 79) (hl : lo < c) (ht : t ≤ 60) (e1 : w 1 lo = nI t) (e3 : w 3 lo = nI hi) (e0 : w 0 lo = 6) (hhi : hi ≤ c)
    (ih : ∀ x n m r, wkX F B x → n ≤ 200 ∧ m ≤ n ∧ r ≤ n → wkRun s0 F B c w (d + 1) (lo + 1) hi x n m r) : ∀ (u k : Nat), k + u = t → ∀ x n m r, wkX F B x → n ≤ 200 ∧ m ≤ n ∧ r ≤ n → ∃ (x' : ro) (n' m' r' : Nat), wkX F B x' ∧ (n' ≤ 200 ∧ m' ≤ n' ∧ r' ≤ n') ∧
      (∀ (K : Nat) (K1 : ac_m → Prop) (P : Int32 → ac_m → Prop), 8 ≤ K + 1 + d → wkP2 (tk_X7_carryOut K) K1 (nI d) (nI lo) P → ∀ s, clS s0 c w s x n m r → (∀ s', fC s s' → clS s0 c w s' x' n' m' r' → K1 s') → P (nI k) s) ∧
      (∀ (K : Nat) (K1 : ac_m → Prop) (P : Int32 → ac_m → Prop), 8 ≤ K + 1 + d → wkQ2 (tk_X12_goes K) K1 (nI lo) P → ∀ s, rfS s0 c w s x n m r → (∀ s', fM s s' → rfS s0 c w s' x' n' m' r' → K1 s') → P (nI k) s) := by
  have v150 : vp_in (nI lo) 150 := vp_in_nI (by omega) (by omega)
  have v80 : vp_in (nI lo) 80 := vp_in_nI (by omega) (by omega)
  have z1 : (1 : Int32).toNatClampNeg = 1 := rfl
  have z3 : (3 : Int32).toNatClampNeg = 3 := rfl
  have cT : ∀ {s x n m r}, clS s0 c w s x n m r → s 39 (nI lo).toNatClampNeg = nI t ∧ s 41 (nI lo).toNatClampNeg = nI hi := fun h => by
    rw [cl_nI (by omega)]; exact ⟨(h.2.1 1 (by omega) lo hl).trans e1, (h.2.1 3 (by omega) lo hl).trans e3⟩
  have rT : ∀ {s x n m r}, rfS s0 c w s x n m r → s (476 + (nI lo).toNatClampNeg) (1 : Int32).toNatClampNeg = nI t ∧ s (476 + (nI lo).toNatClampNeg) (3 : Int32).toNatClampNeg = nI hi := fun h => by
    rw [cl_nI (by omega), z1, z3]
    exact ⟨((h.2.1 lo hl).2.1 (by rw [e0]; decide)).trans e1, ((h.2.1 lo hl).2.2.2).trans e3⟩
  intro u
  induction u with
  | zero =>
    intro k hk x n m r v b
    refine ⟨x, n, m, r, v, b, fun K K1 P h8 hP s cs h => ?_, fun K K1 P h8 hP s cs h => ?_⟩
    · refine hP _ _ ⟨v150, fun _ => h s fC.rf cs, fun z => absurd ?_ z⟩
      rw [(cT cs).1]; exact nI_le (by omega) (by omega)
    · refine hP _ _ ⟨v80, fun _ => h s fM.rf cs, fun z => absurd ?_ z⟩
      rw [(rT cs).1]; exact nI_le (by omega) (by omega)
  | succ u ihu =>
    intro k hk x n m r v b
    by_cases c2 : n = 200
    · refine ⟨x, n, m, r, v, b, fun K K1 P h8 hP s cs h => ?_, fun K K1 P h8 hP s cs h => ?_⟩
      · refine hP _ _ ⟨v150, fun z => absurd z (by rw [(cT cs).1]; exact nI_ge (by omega) (by omega)), fun _ => ⟨fun _ => h s fC.rf cs, fun z => absurd ?_ z⟩⟩
        rw [cs.2.2.2.1, c2]; decide
      · refine hP _ _ ⟨v80, fun z => absurd z (by rw [(rT cs).1]; exact nI_ge (by omega) (by omega)), fun _ => ⟨fun _ => h s fM.rf cs, fun z => absurd ?_ z⟩⟩
        rw [cs.2.2.2.1, c2]; decide
    · obtain ⟨x1, n1, m1, r1, v1, b1, C1, R1⟩ := ih x n m r v b
      obtain ⟨x2, n2, m2, r2, v2, b2, C2, R2⟩ := ihu (k + 1) (by omega) x1 n1 m1 r1 v1 b1
      have ng : ¬ (200 : Int32) ≤ nI n := nI_ge (b := 200) (by omega) (by omega)
      refine ⟨x2, n2, m2, r2, v2, b2, fun K K1 P h8 hP s cs h => ?_, fun K K1 P h8 hP s cs h => ?_⟩
      · refine hP _ _ ⟨v150, fun z => absurd z (by rw [(cT cs).1]; exact nI_ge (by omega) (by omega)), fun _ => ⟨fun z => absurd z (by rw [cs.2.2.2.1]; exact ng), fun _ => ⟨fun z => absurd z (nI_ge (b := 6) hd (by omega)), fun _ => ⟨v150, ?_⟩⟩⟩⟩
        rw [(cT cs).2, nI_1, nI_1, nI_1]
        obtain ⟨K', rfl⟩ : ∃ K', K = K' + 1 := ⟨K - 1, by omega⟩
        rw [tk_X7_carryOut]
        unfold w_X7_carryOut
        refine ⟨fun z => absurd z (nI_pos (by omega)), fun _ => ⟨fun _ => ?_, fun z => absurd (nI_le (b := 150) (by omega) (by omega)) z⟩⟩
        unfold l_X7_carryOut_15
        intro P2 hP2
        refine C1 K' _ _ _ _ P2 (by omega) hP2 s cs (fun s1 f1 cs1 => ?_)
        exact C2 (K' + 1) K1 P h8 hP s1 cs1 (fun s2 f2 cs2 => h s2 (f1.trans f2) cs2)
      · refine hP _ _ ⟨v80, fun z => absurd z (by rw [(rT cs).1]; exact nI_ge (by omega) (by omega)), fun _ => ⟨fun z => absurd z (by rw [cs.2.2.2.1]; exact ng), fun _ => ⟨v80, ?_⟩⟩⟩
        rw [(rT cs).2, nI_1, nI_1]
        obtain ⟨K', rfl⟩ : ∃ K', K = K' + 1 := ⟨K - 1, by omega⟩
        rw [tk_X12_goes]
        unfold w_X12_goes l_X12_goes_2
        intro P2 hP2
        refine R1 K' _ _ _ P2 (by omega) hP2 s cs (fun s1 f1 cs1 => ?_)
        exact R2 (K' + 1) K1 P h8 hP s1 cs1 (fun s2 f2 cs2 => h s2 (f1.trans f2) cs2)
theorem clS_st {s0 s s' : ac_m} {c : Nat} {w : Nat → Nat → Int32} {x x' : ro} {n m r : Nat} (h : clS s0 c w s x n m r) (f : wkC s s') (mm : rM s' 42 x') : clS s0 c w s' x' n m r := by
  obtain ⟨h1, h2, h3, h4, h5, h6⟩ := h
  have e37 := f 37 (by omega) (by omega) (by omega)
  exact ⟨SF_C h1 ⟨fun y a b _ d => f y a b d, by rw [e37]⟩, fun k hk i hi => by rw [f _ (by omega) (by omega) (by omega)]; exact h2 k hk i hi, mm, by rw [e37]; exact h4, by rw [e37]; exact h5, by rw [e37]; exact h6⟩
theorem clS_67 {s0 s : ac_m} {c : Nat} {w : Nat → Nat → Int32} {x : ro} {n m r : Nat} (h : clS s0 c w s x n m r) : clS s0 c w (ac_u s 37 7 (nI (r + 1))) x n m (r + 1) ∧ clS s0 c w (ac_u s 37 6 (nI (m + 1))) x n (m + 1) r := by
  obtain ⟨h1, h2, h3, h4, h5, h6⟩ := h
  refine ⟨⟨SF_C h1 (fC_37 fC.rf (by omega)), fun k hk i hi => by rw [u_ne (by omega)]; exact h2 k hk i hi, rM_un h3 (fun y hy => u_ne (by omega)), by rw [u_at (by omega)]; exact h4, by rw [u_at (by omega)]; exact h5, u_eq⟩, ⟨SF_C h1 (fC_37 fC.rf (by omega)), fun k hk i hi => by rw [u_ne (by omega)]; exact h2 k hk i hi, rM_un h3 (fun y hy => u_ne (by omega)), by rw [u_at (by omega)]; exact h4, u_eq, by rw [u_at (by omega)]; exact h6⟩⟩
theorem rfS_st {s0 s s' : ac_m} {c : Nat} {w : Nat → Nat → Int32} {x x' : ro} {n m r : Nat} (hc : c ≤ 79) (h : rfS s0 c w s x n m r) (f : wkM s s') (mm : s' 556 = x') : rfS s0 c w s' x' n m r := by
  obtain ⟨h1, h2, h3, h4, h5, h6⟩ := h
  have e69 := f 69 (by omega) (by omega) (by omega) (by omega)
  exact ⟨SF_M h1 ⟨fun y a b d e _ => f y a b d e, fun j _ _ _ => by rw [e69]⟩, fun i hi => by rw [f _ (by omega) (by omega) (by omega) (by omega)]; exact h2 i hi, mm, by rw [e69]; exact h4, by rw [e69]; exact h5, by rw [e69]; exact h6⟩
theorem rfS_40 {s0 s : ac_m} {c : Nat} {w : Nat → Nat → Int32} {x : ro} {n m r m' r' : Nat} (hc : c ≤ 79) (h : rfS s0 c w s x n m r) : rfS s0 c w (ac_u (ac_u s 69 40 (nI m')) 69 36 (nI r')) x n m' r' := by
  obtain ⟨h1, h2, h3, h4, h5, h6⟩ := h
  exact ⟨SF_M h1 (fM_69 (fM_69 fM.rf (by omega)) (by omega)), fun i hi => by rw [u_ne (by omega), u_ne (by omega)]; exact h2 i hi, by rw [u_ne (by omega), u_ne (by omega)]; exact h3, by rw [u_at (by omega), u_at (by omega)]; exact h4, by rw [u_at (by omega), u_eq], u_eq⟩
theorem wk_run {s0 : ac_m} {F B c : Nat} {w : Nat → Nat → Int32} (i : wkI s0 F B) (tb : ∀ i, i < c → wkOK F B (w 0 i) (w 1 i) (w 2 i)) (hc : c ≤ 79) : ∀ (f d lo hi : Nat), wf w f d lo hi → d ≤ 6 → hi ≤ c → ∀ x n m r, wkX F B x → n ≤ 200 ∧ m ≤ n ∧ r ≤ n → wkRun s0 F B c w d lo hi x n m r := by
  have stop : ∀ (d lo : Nat) x n m r, wkX F B x → n ≤ 200 ∧ m ≤ n ∧ r ≤ n → wkRun s0 F B c w d lo lo x n m r := by
    intro d lo x n m r v b
    refine ⟨x, n, m, r, v, b, fun K p2 p3 p4 Q P h8 hP s cs h => ?_, fun K p1 p2 Q P h8 hP s cs h => ?_⟩
    · exact hP _ _ ⟨fun _ => h s fC.rf cs, fun z => absurd (Int32.le_refl _) z⟩
    · exact hP _ _ ⟨fun _ => h s fM.rf cs, fun z => absurd (Int32.le_refl _) z⟩
  intro f
  induction f with
  | zero =>
    intro d lo hi h hd hh x n m r v b
    rw [wf] at h
    subst h
    exact stop d lo x n m r v b
  | succ f ih =>
    intro d lo hi h hd hh x n m r v b
    rw [wf] at h
    rcases h with rfl | ⟨j, h1, h2, e3, h6, hr⟩
    · exact stop d lo x n m r v b
    have v150 : vp_in (nI lo) 150 := vp_in_nI (by omega) (by omega)
    have v80 : vp_in (nI lo) 80 := vp_in_nI (by omega) (by omega)
    have nl : ¬ nI hi ≤ nI lo := nI_ge (by omega) (by omega)
    have z0 : (0 : Int32).toNatClampNeg = 0 := rfl
    have z3 : (3 : Int32).toNatClampNeg = 3 := rfl
    have cl : (nI lo).toNatClampNeg = lo := cl_nI (by omega)
    have nx : (if nI (lo + 1) < nI j then nI j else nI (lo + 1)) = nI j := by
      by_cases q : lo + 1 = j
      · rw [q, if_neg (nI_nlt (Nat.le_refl _) (by omega))]
      · rw [if_pos (nI_lt (by omega) (by omega))]
    by_cases c2 : n = 200
    · refine ⟨x, n, m, r, v, b, fun K p2 p3 p4 Q P h8 hP s cs h => ?_, fun K p1 p2 Q P h8 hP s cs h => ?_⟩
      · exact hP _ _ ⟨fun z => absurd z nl, fun _ => ⟨fun _ => h s fC.rf cs, fun z => absurd (by rw [cs.2.2.2.1, c2]; decide) z⟩⟩
      · exact hP _ _ ⟨fun z => absurd z nl, fun _ => ⟨fun _ => h s fM.rf cs, fun z => absurd (by rw [cs.2.2.2.1, c2]; decide) z⟩⟩
    have ng : ¬ (200 : Int32) ≤ nI n := nI_ge (b := 200) (by omega) (by omega)
    have ok := tb lo (by omega)
    have cE : ∀ {s x n m r}, clS s0 c w s x n m r → ∀ k, k < 4 → s (38 + k) (nI lo).toNatClampNeg = w k lo := fun h k hk => by rw [cl]; exact h.2.1 k hk lo (by omega)
    have rE : ∀ {s x n m r}, rfS s0 c w s x n m r → s (476 + (nI lo).toNatClampNeg) (0 : Int32).toNatClampNeg = w 0 lo ∧ s (476 + (nI lo).toNatClampNeg) (3 : Int32).toNatClampNeg = nI j := fun h => by rw [cl, z0, z3]; exact ⟨(h.2.1 lo (by omega)).1, ((h.2.1 lo (by omega)).2.2.2).trans e3⟩
    by_cases c6 : w 0 lo = 6
    · obtain ⟨d6, wj⟩ := h6 c6
      obtain ⟨t, ht, e1⟩ : ∃ t, t ≤ 60 ∧ w 1 lo = nI t := by
        rw [c6] at ok
        rcases ok with ⟨h, _⟩ | ⟨h, _⟩ | ⟨h, _⟩ | h | ⟨_, t, ht, e⟩
        · rcases h with h | h | h <;> exact absurd h (by decide)
        · exact absurd h (by decide)
        · exact absurd h (by decide)
        · exact absurd h (by decide)
        · exact ⟨t, ht, e⟩
      obtain ⟨x1, n1, m1, r1, v1, b1, C1, R1⟩ := wk_rep (s0 := s0) (F := F) (B := B) d6 hc (show lo < c by omega) ht e1 e3 c6 (show j ≤ c by omega) (fun x n m r v b => ih (d + 1) (lo + 1) j wj (by omega) (by omega) x n m r v b) t 0 (by omega) x (n + 1) m r v (by omega)
      obtain ⟨x2, n2, m2, r2, v2, b2, C2, R2⟩ := ih d j hi hr hd hh x1 n1 m1 r1 v1 b1
      refine ⟨x2, n2, m2, r2, v2, b2, fun K p2 p3 p4 Q P h8 hP s cs h => ?_, fun K p1 p2 Q P h8 hP s cs h => ?_⟩
      · refine hP _ _ ⟨fun z => absurd z nl, fun _ => ⟨fun z => absurd (by rw [cs.2.2.2.1] at z; exact z) ng, fun _ => ⟨v150, ?_⟩⟩⟩
        have cs' := clS_5 (n' := n + 1) cs
        rw [cs.2.2.2.1, nI_1 n, nI_1 lo, show (ac_u s 37 5 (nI (n + 1))) 38 (nI lo).toNatClampNeg = w 0 lo from cE cs' 0 (by omega)]
        refine ⟨fun z => absurd c6 z, fun _ => ?_⟩
        unfold l_X7_carryOut_56
        intro P2 hP2
        refine C1 K _ P2 h8 hP2 _ cs' (fun s1 f1 cs1 => ⟨v150, fun y hy => ?_⟩)
        rw [show s1 41 (nI lo).toNatClampNeg = w 3 lo from cE cs1 3 (by omega), e3, nx] at hy
        rw [hy]
        exact C2 K p2 p3 p4 Q P h8 hP s1 cs1 (fun s2 f2 cs2 => h s2 ((fC_37 fC.rf (by omega)).trans (f1.trans f2)) cs2)
      · refine hP _ _ ⟨fun z => absurd z nl, fun _ => ⟨fun z => absurd (by rw [cs.2.2.2.1] at z; exact z) ng, fun _ => ⟨v80, ?_⟩⟩⟩
        have cs' := rfS_39 (n' := n + 1) hc cs
        rw [cs.2.2.2.1, nI_1 n, (rE cs').1]
        refine ⟨fun z => absurd c6 z, fun _ => ?_⟩
        unfold l_X12_goes_43
        intro P2 hP2
        refine R1 K _ P2 h8 hP2 _ cs' (fun s1 f1 cs1 => ⟨v80, ?_⟩)
        rw [(rE cs1).2]
        exact R2 K p1 p2 Q P h8 hP s1 cs1 (fun s2 f2 cs2 => h s2 ((fM_69 fM.rf (by omega)).trans (f1.trans f2)) cs2)
    · obtain ⟨x1, rr, hrr, v1, C1, R1⟩ := wk_step i ok c6 v
      have fin : ∀ (m1 r1 : Nat), m1 ≤ n + 1 → r1 ≤ n + 1 → (rr = 0 → m1 = m ∧ r1 = r + 1) → (rr = 1 → m1 = m + 1 ∧ r1 = r) → wkRun s0 F B c w d lo hi x n m r := by
        intro m1 r1 hm1 hr1 q0 q1
        obtain ⟨x2, n2, m2, r2, v2, b2, C2, R2⟩ := ih d j hi hr hd hh x1 (n + 1) m1 r1 v1 (by omega)
        refine ⟨x2, n2, m2, r2, v2, b2, fun K p2 p3 p4 Q P h8 hP s cs h => ?_, fun K p1 p2 Q P h8 hP s cs h => ?_⟩
        · refine hP _ _ ⟨fun z => absurd z nl, fun _ => ⟨fun z => absurd (by rw [cs.2.2.2.1] at z; exact z) ng, fun _ => ⟨v150, ?_⟩⟩⟩
          have cs' := clS_5 (n' := n + 1) cs
          rw [cs.2.2.2.1, nI_1 n, nI_1 lo, show (ac_u s 37 5 (nI (n + 1))) 38 (nI lo).toNatClampNeg = w 0 lo from cE cs' 0 (by omega), show (ac_u s 37 5 (nI (n + 1))) 39 (nI lo).toNatClampNeg = w 1 lo from cE cs' 1 (by omega), show (ac_u s 37 5 (nI (n + 1))) 40 (nI lo).toNatClampNeg = w 2 lo from cE cs' 2 (by omega)]
          refine ⟨fun _ => ⟨v150, v150, v150, ?_⟩, fun z => absurd z c6⟩
          refine C1 _ _ cs'.1 cs'.2.2.1 (fun s1 f1 mm1 => ?_)
          have cs1 := clS_st cs' f1 mm1
          have F1 : fC s s1 := (fC_37 fC.rf (by omega) : fC s (ac_u s 37 5 (nI (n + 1)))).trans ⟨fun y a b _ e => f1 y a b e, by rw [f1 37 (by omega) (by omega) (by omega)]⟩
          rw [cs1.2.2.2.2.1, cs1.2.2.2.2.2, nI_1 m, nI_1 r]
          refine ⟨fun z => ⟨v150, fun y hy => ?_⟩, fun z => ⟨v150, fun y hy => ?_⟩⟩
          · obtain ⟨rfl, rfl⟩ := q0 z
            rw [show (ac_u s1 37 7 (nI (r + 1))) 41 (nI lo).toNatClampNeg = w 3 lo from cE (clS_67 cs1).1 3 (by omega), e3, nx] at hy
            rw [hy]
            exact C2 K p2 p3 p4 Q P h8 hP _ (clS_67 cs1).1 (fun s2 f2 cs2 => h s2 ((fC_37 F1 (by omega)).trans f2) cs2)
          · obtain ⟨rfl, rfl⟩ := q1 (hrr.resolve_left z)
            rw [show (ac_u s1 37 6 (nI (m + 1))) 41 (nI lo).toNatClampNeg = w 3 lo from cE (clS_67 cs1).2 3 (by omega), e3, nx] at hy
            rw [hy]
            exact C2 K p2 p3 p4 Q P h8 hP _ (clS_67 cs1).2 (fun s2 f2 cs2 => h s2 ((fC_37 F1 (by omega)).trans f2) cs2)
        · refine hP _ _ ⟨fun z => absurd z nl, fun _ => ⟨fun z => absurd (by rw [cs.2.2.2.1] at z; exact z) ng, fun _ => ⟨v80, ?_⟩⟩⟩
          have cs' := rfS_39 (n' := n + 1) hc cs
          rw [cs.2.2.2.1, nI_1 n, (rE cs').1, cl]
          refine ⟨fun _ => ⟨v80, ?_⟩, fun z => absurd z c6⟩
          have row := cs'.2.1 lo (by omega)
          refine R1 _ _ (476 + lo) cs'.1 cs'.2.2.1 row.1 row.2.1 row.2.2.1 (fun s1 f1 mm1 => ?_)
          have cs1 := rfS_st hc cs' f1 mm1
          have F1 : fM s s1 := (fM_69 fM.rf (by omega) : fM s (ac_u s 69 39 (nI (n + 1)))).trans ⟨fun y a b e g _ => f1 y a b e g, fun j _ _ _ => by rw [f1 69 (by omega) (by omega) (by omega) (by omega)]⟩
          have a36 : ∀ v, (ac_u s1 69 40 v) 69 36 = nI r := fun v => by rw [u_at (by omega)]; exact cs1.2.2.2.2.2
          rw [cs1.2.2.2.2.1, Int32.add_zero, nI_1 m, a36, a36, Int32.add_zero, nI_1 r]
          refine ⟨fun z => ⟨fun _ => ⟨v80, fun y hy => ?_⟩, fun z2 => absurd z z2⟩, fun z => ⟨fun z2 => absurd z2 z, fun _ => ⟨v80, fun y hy => ?_⟩⟩⟩
          · obtain ⟨rfl, rfl⟩ := q0 z
            have cs2 := rfS_40 (m' := m1) (r' := r + 1) hc cs1
            have e := (rE cs2).2
            rw [cl] at e
            rw [e] at hy
            rw [hy]
            exact R2 K p1 p2 Q P h8 hP _ cs2 (fun s2 f2 cs2 => h s2 ((fM_69 (fM_69 F1 (by omega)) (by omega)).trans f2) cs2)
          · obtain ⟨rfl, rfl⟩ := q1 (hrr.resolve_left z)
            have cs2 := rfS_40 (m' := m + 1) (r' := r1) hc cs1
            have e := (rE cs2).2
            rw [cl] at e
            rw [e] at hy
            rw [hy]
            exact R2 K p1 p2 Q P h8 hP _ cs2 (fun s2 f2 cs2 => h s2 ((fM_69 (fM_69 F1 (by omega)) (by omega)).trans f2) cs2)
      rcases hrr with q | q
      · exact fin m (r + 1) (by omega) (by omega) (fun _ => ⟨rfl, rfl⟩) (fun z => absurd (q.symm.trans z) (by decide))
      · exact fin (m + 1) r (by omega) (by omega) (fun z => absurd (q.symm.trans z) (by decide)) (fun _ => ⟨rfl, rfl⟩)
