/-! LAW: the loops, and the whole sum -/
theorem EX_seqK {t : Nat → Nat} {n d e1 e2 e3 a b c0 q : Nat} {RC1 RC2 : (Int32 → ac_m → Prop) → ac_m → Prop} {RM1 RM2 : (ac_m → Prop) → ac_m → Prop} (K : (Int32 → ac_m → Prop) → Int32 → ac_m → Prop) (K0 : ∀ Q s, Q 0 s → K Q 0 s) (K1 : ∀ Q s, RC2 Q s → K Q 1 s) (h1 : EX t n d e1 e2 a b RC1 RM1 q) (pf : PF RM2) (h2 : ∀ q1, q ≤ q1 → q1 ≤ n → skb t n q1 = q1 → q + e2 ≤ q1 + e1 → EX t n d e2 e3 b c0 RC2 RM2 q1) : EX t n d e1 e3 a c0 (fun Q s => RC1 (K Q) s) (fun Q s => RM1 (fun s1 => RM2 Q s1) s) q := by
  obtain ⟨o, C, M, G⟩ := h1
  rcases o with ⟨kd, pl⟩ | ⟨q1, l1⟩
  · refine ⟨.inl (kd, pl), ?_, ?_, fun _ _ eo => (by cases eo), G.2⟩
    · intro Q s p c T hp hq e3 e29 hc _ hF
      exact C _ s p c T hp hq e3 e29 hc (fun _ _ eo => by cases eo) (fun kd pl eo s' bd => K0 _ _ (hF kd pl eo s' bd))
    · intro Q s p c T hp hq e4 e5 e8 e20 hc _ hF
      refine M _ s p c T hp hq e4 e5 e8 e20 hc (fun _ _ eo => by cases eo) (fun kd pl eo s' bd => ?_)
      have k := G.2 kd pl eo
      exact pf _ _ (by rw [bd.2.1]; exact nI_k k) (hF kd pl eo s' bd)
  · obtain ⟨g1, g2, g3, g4, g5, g6⟩ := G.1 q1 l1 rfl
    obtain ⟨o2, C2, M2, G2⟩ := h2 q1 g2 g3 g4 (by omega)
    rcases o2 with ⟨kd, pl⟩ | ⟨q2, l2⟩
    · refine ⟨.inl (kd, pl), ?_, ?_, fun _ _ eo => (by cases eo), G2.2⟩
      · intro Q s p c T hp hq e3 e29 hc _ hF
        refine C _ s p c T hp hq e3 e29 hc (fun q' l eo s1 ok => ?_) (fun _ _ eo => by cases eo)
        cases eo
        obtain ⟨p1, hp1, hq1, e31⟩ := ok.2.2.1
        exact K1 _ _ (C2 _ s1 p1 _ (okC_CT T ok) hp1 hq1 e31 ok.2.2.2.1 (by omega) (fun _ _ eo => by cases eo) (fun kd pl eo s' bd => hF kd pl eo s' (okC_bad ok bd)))
      · intro Q s p c T hp hq e4 e5 e8 e20 hc _ hF
        refine M _ s p c T hp hq e4 e5 e8 e20 hc (fun q' l eo s1 ok => ?_) (fun _ _ eo => by cases eo)
        cases eo
        obtain ⟨p1, hp1, hq1, e41⟩ := ok.2.2.1
        exact M2 _ s1 p1 _ (frM_MT T ok.1) hp1 hq1 e41 (ok.2.1.1.trans e5) (ok.2.1.2.2.trans e8) ok.2.2.2.1 (by omega) (fun _ _ eo => by cases eo) (fun kd pl eo s' bd => hF kd pl eo s' (okM_bad ok bd))
    · obtain ⟨k1, k2, k3, k4, k5, k6⟩ := G2.1 q2 l2 rfl
      refine ⟨.inr (q2, l1 ++ l2), ?_, ?_, fun q' l eo => ?_, fun _ _ eo => by cases eo⟩
      · intro Q s p c T hp hq e3 e29 hc hS _
        refine C _ s p c T hp hq e3 e29 hc (fun q' l eo s1 ok => ?_) (fun _ _ eo => by cases eo)
        cases eo
        obtain ⟨p1, hp1, hq1, e31⟩ := ok.2.2.1
        exact K1 _ _ (C2 _ s1 p1 _ (okC_CT T ok) hp1 hq1 e31 ok.2.2.2.1 (by omega) (fun q' l eo s' ok2 => by cases eo; exact hS _ _ rfl s' (ok.trans ok2)) (fun _ _ eo => by cases eo))
      · intro Q s p c T hp hq e4 e5 e8 e20 hc hS _
        refine M _ s p c T hp hq e4 e5 e8 e20 hc (fun q' l eo s1 ok => ?_) (fun _ _ eo => by cases eo)
        cases eo
        obtain ⟨p1, hp1, hq1, e41⟩ := ok.2.2.1
        exact M2 _ s1 p1 _ (frM_MT T ok.1) hp1 hq1 e41 (ok.2.1.1.trans e5) (ok.2.1.2.2.trans e8) ok.2.2.2.1 (by omega) (fun q' l eo s' ok2 => by cases eo; exact hS _ _ rfl s' (ok.trans ok2)) (fun _ _ eo => by cases eo)
      · cases eo
        refine ⟨by rw [List.length_append]; omega, by omega, k3, k4, fun x hx => ?_, fun h => ?_⟩
        · rcases List.mem_append.1 hx with y | y
          · exact g5 x y
          · exact k5 x y
        · rw [lRn_app, g6, Option.bind_some, k6]
theorem c_passQ {t : Nat → Nat} {n p q c : Nat} {Q : Int32 → ac_m → Prop} {s : ac_m} (T : CT s t n) (hp : p ≤ n) (hq : skb t n p = q) (e3 : s 1 3 = nI p) (hc : c < 128) (h1 : ch t n q = c → ∀ s', mv s s' (q + 1) q → Q 1 s') (h0 : ch t n q ≠ c → ∀ s', mv s s' q q → Q 0 s') : w_X10_passes (nI c) Q s := by
  subst hq; exact c_passes T hp e3 hc h1 h0
theorem m_tsQ {t : Nat → Nat} {n p q c : Nat} {Q : Int32 → ac_m → Prop} {s : ac_m} (T : MT s t n) (hp : p ≤ n) (hq : skb t n p = q) (e4 : s 69 4 = nI p) (e5 : s 69 5 = 0) (hc : c < 128) (h1 : ch t n q = c → ∀ s', mvM s s' (q + 1) → Q 1 s') (h0 : ch t n q ≠ c → ∀ s', mvM s s' q → Q 0 s') : w_X12_takesSign (nI c) Q s := by
  subst hq; exact m_takesSign T hp e4 e5 hc h1 h0
theorem EX_pstep {t : Nat → Nat} {n d q : Nat} {Rs : Int32 → (Int32 → ac_m → Prop) → ac_m → Prop} {Rm : (ac_m → Prop) → ac_m → Prop} (n150 : n ≤ 150) (sub : ∀ q, q ≤ n → skb t n q = q → EX t n d 0 0 0 1 (fun Q s => w_X4_readUnit (nI d) Q Rs s) (fun Q s => w_X12_one Q Rm s) q) (hq : q ≤ n) (qq : skb t n q = q)
    (rest : ∀ q', q < q' → q' ≤ n → skb t n q' = q' → EX t n d 0 0 1 1 (fun Q s => ∀ x : Nat, x ≤ q' → l_X4_readProduct_13 (nI d) Q Rs (nI d) (nI x) s) (fun Q s => l_X12_product_4 Q Rm s) q') : EX t n d 0 0 1 1 (fun Q s => ∀ x : Nat, x ≤ q → l_X4_readProduct_13 (nI d) Q Rs (nI d) (nI x) s) (fun Q s => l_X12_product_4 Q Rm s) q := by
  have qn (c : Nat) (hc : c < 128) (e : ch t n q = c) : q + 1 ≤ n := by
    rcases Nat.lt_or_ge q n with z | z
    · exact z
    · rw [ch_end z] at e; omega
  by_cases c0 : ch t n q = 42
  · obtain ⟨o, C, M, G⟩ := EX_op (v := -11) (x := (4, 0)) (RCl := fun q' Q s => ∀ x : Nat, x ≤ q' → l_X4_readProduct_13 (nI d) Q Rs (nI d) (nI x) s) (RMl := fun Q s => l_X12_product_4 Q Rm s) n150 (qn 42 (by omega) c0) sub (by decide) (.inr (.inr (by decide))) (opr (by decide)) rest
    refine ⟨o, ?_, ?_, G⟩
    · intro Q s p c T hp hq' e3 e29 hc hS hF y hy
      unfold l_X4_readProduct_13
      intro P hP
      refine hP _ _ ⟨fun z => absurd z (by rw [T.1]; exact nI_nlt (by omega) (by have := T.2.1.1; omega)), fun _ => ?_⟩
      exact c_passQ (c := 42) T hp hq' e3 (by omega) (fun _ s' m => m_if1B ⟨fun _ => C Q s s' c (fun s' => P (nI y + 1) s') T m e29 hc hS hF (fun q' s' h1 h2 => by rw [nI_1]; exact h2 (y + 1) (by omega) P hP), fun z => absurd z (by decide)⟩) (fun z => absurd c0 z)
    · intro Q s p c T hp hq' e4 e5 e8 e20 hc hS hF
      unfold l_X12_product_4
      intro P hP
      refine hP _ ⟨fun z => absurd e5 z, fun _ => ?_⟩
      exact m_tsQ (c := 42) T hp hq' e4 e5 (by omega) (fun _ s' m => m_if1B ⟨fun _ => M Q s s' c (fun s' => P s') T m e5 e8 e20 hc hS hF (fun s' h => h P hP) (fun s' ne h => hP s' ⟨fun _ => h, fun z => absurd z ne⟩), fun z => absurd z (by decide)⟩) (fun z => absurd c0 z)
  by_cases c1 : ch t n q = 47
  · obtain ⟨o, C, M, G⟩ := EX_op (v := -12) (x := (5, 0)) (RCl := fun q' Q s => ∀ x : Nat, x ≤ q' → l_X4_readProduct_13 (nI d) Q Rs (nI d) (nI x) s) (RMl := fun Q s => l_X12_product_4 Q Rm s) n150 (qn 47 (by omega) c1) sub (by decide) (.inr (.inr (by decide))) (opr (by decide)) rest
    refine ⟨o, ?_, ?_, G⟩
    · intro Q s p c T hp hq' e3 e29 hc hS hF y hy
      unfold l_X4_readProduct_13
      intro P hP
      refine hP _ _ ⟨fun z => absurd z (by rw [T.1]; exact nI_nlt (by omega) (by have := T.2.1.1; omega)), fun _ => ?_⟩
      refine c_passQ (c := 42) T hp hq' e3 (by omega) (fun z => absurd z c0) (fun _ s1 m1 => m_if0B ?_)
      have M1 : mv s s1 q q := m1
      exact c_passQ (c := 47) (CT_mv T M1) hq qq M1.2.2.1 (by omega) (fun _ s' m => m_if1B ⟨fun _ => C Q s s' c (fun s' => P (nI y + 1) s') T (M1.trans m) e29 hc hS hF (fun q' s' h1 h2 => by rw [nI_1]; exact h2 (y + 1) (by omega) P hP), fun z => absurd z (by decide)⟩) (fun z => absurd c1 z)
    · intro Q s p c T hp hq' e4 e5 e8 e20 hc hS hF
      unfold l_X12_product_4
      intro P hP
      refine hP _ ⟨fun z => absurd e5 z, fun _ => ?_⟩
      refine m_tsQ (c := 42) T hp hq' e4 e5 (by omega) (fun z => absurd z c0) (fun _ s1 m1 => m_if0B ?_)
      have M1 : mvM s s1 q := m1
      exact m_tsQ (c := 47) (MT_mv T M1) hq qq M1.2.2 ((M1.2.1 5 (by omega)).trans e5) (by omega) (fun _ s' m => m_if1B ⟨fun _ => M Q s s' c (fun s' => P s') T (M1.trans m) e5 e8 e20 hc hS hF (fun s' h => h P hP) (fun s' ne h => hP s' ⟨fun _ => h, fun z => absurd z ne⟩), fun z => absurd z (by decide)⟩) (fun z => absurd c1 z)
  by_cases c2 : ch t n q = 37
  · obtain ⟨o, C, M, G⟩ := EX_op (v := -13) (x := (6, 0)) (RCl := fun q' Q s => ∀ x : Nat, x ≤ q' → l_X4_readProduct_13 (nI d) Q Rs (nI d) (nI x) s) (RMl := fun Q s => l_X12_product_4 Q Rm s) n150 (qn 37 (by omega) c2) sub (by decide) (.inr (.inr (by decide))) (opr (by decide)) rest
    refine ⟨o, ?_, ?_, G⟩
    · intro Q s p c T hp hq' e3 e29 hc hS hF y hy
      unfold l_X4_readProduct_13
      intro P hP
      refine hP _ _ ⟨fun z => absurd z (by rw [T.1]; exact nI_nlt (by omega) (by have := T.2.1.1; omega)), fun _ => ?_⟩
      refine c_passQ (c := 42) T hp hq' e3 (by omega) (fun z => absurd z c0) (fun _ s1 m1 => m_if0B ?_)
      have M1 : mv s s1 q q := m1
      refine c_passQ (c := 47) (CT_mv T M1) hq qq M1.2.2.1 (by omega) (fun z => absurd z c1) (fun _ s2 m2 => m_if0B ?_)
      have M2 : mv s s2 q q := M1.trans m2
      exact c_passQ (c := 37) (CT_mv T M2) hq qq M2.2.2.1 (by omega) (fun _ s' m => m_if1B ⟨fun _ => C Q s s' c (fun s' => P (nI y + 1) s') T (M2.trans m) e29 hc hS hF (fun q' s' h1 h2 => by rw [nI_1]; exact h2 (y + 1) (by omega) P hP), fun z => absurd z (by decide)⟩) (fun z => absurd c2 z)
    · intro Q s p c T hp hq' e4 e5 e8 e20 hc hS hF
      unfold l_X12_product_4
      intro P hP
      refine hP _ ⟨fun z => absurd e5 z, fun _ => ?_⟩
      refine m_tsQ (c := 42) T hp hq' e4 e5 (by omega) (fun z => absurd z c0) (fun _ s1 m1 => m_if0B ?_)
      have M1 : mvM s s1 q := m1
      refine m_tsQ (c := 47) (MT_mv T M1) hq qq M1.2.2 ((M1.2.1 5 (by omega)).trans e5) (by omega) (fun z => absurd z c1) (fun _ s2 m2 => m_if0B ?_)
      have M2 : mvM s s2 q := M1.trans m2
      exact m_tsQ (c := 37) (MT_mv T M2) hq qq M2.2.2 ((M2.2.1 5 (by omega)).trans e5) (by omega) (fun _ s' m => m_if1B ⟨fun _ => M Q s s' c (fun s' => P s') T (M2.trans m) e5 e8 e20 hc hS hF (fun s' h => h P hP) (fun s' ne h => hP s' ⟨fun _ => h, fun z => absurd z ne⟩), fun z => absurd z (by decide)⟩) (fun z => absurd c2 z)
  refine ⟨.inr (q, []), ?_, ?_, fun q' l eo => ?_, fun _ _ eo => by cases eo⟩
  · intro Q s p c T hp hq' e3 e29 hc hS hF y hy
    unfold l_X4_readProduct_13
    intro P hP
    refine hP _ _ ⟨fun z => absurd z (by rw [T.1]; exact nI_nlt (by omega) (by have := T.2.1.1; omega)), fun _ => ?_⟩
    refine c_passQ (c := 42) T hp hq' e3 (by omega) (fun z => absurd z c0) (fun _ s1 m1 => m_if0B ?_)
    have M1 : mv s s1 q q := m1
    refine c_passQ (c := 47) (CT_mv T M1) hq qq M1.2.2.1 (by omega) (fun z => absurd z c1) (fun _ s2 m2 => m_if0B ?_)
    have M2 : mv s s2 q q := M1.trans m2
    refine c_passQ (c := 37) (CT_mv T M2) hq qq M2.2.2.1 (by omega) (fun z => absurd z c2) (fun _ s3 m3 => m_if0B ?_)
    have M3 : mv s s3 q q := M2.trans m3
    have ok := okC_mv (t := t) e29 hq M3
    rw [qq] at ok
    exact m_if0A (hS _ _ rfl _ ok)
  · intro Q s p c T hp hq' e4 e5 e8 e20 hc hS hF
    unfold l_X12_product_4
    intro P hP
    refine hP _ ⟨fun z => absurd e5 z, fun _ => ?_⟩
    refine m_tsQ (c := 42) T hp hq' e4 e5 (by omega) (fun z => absurd z c0) (fun _ s1 m1 => m_if0B ?_)
    have M1 : mvM s s1 q := m1
    refine m_tsQ (c := 47) (MT_mv T M1) hq qq M1.2.2 ((M1.2.1 5 (by omega)).trans e5) (by omega) (fun z => absurd z c1) (fun _ s2 m2 => m_if0B ?_)
    have M2 : mvM s s2 q := M1.trans m2
    refine m_tsQ (c := 37) (MT_mv T M2) hq qq M2.2.2 ((M2.2.1 5 (by omega)).trans e5) (by omega) (fun z => absurd z c2) (fun _ s3 m3 => m_if0B ?_)
    have M3 : mvM s s3 q := M2.trans m3
    have ok := okM_mv (t := t) e20 hq M3
    rw [qq] at ok
    exact ⟨fun z => absurd rfl z, fun _ => hS _ _ rfl _ ok⟩
  · cases eo
    exact ⟨by rw [List.length_nil]; omega, by omega, hq, qq, fun x hx => (by cases hx), fun h => rfl⟩
theorem EX_sstep {t : Nat → Nat} {n d q : Nat} {Rs : Int32 → (Int32 → ac_m → Prop) → ac_m → Prop} {Rm : (ac_m → Prop) → ac_m → Prop} (n150 : n ≤ 150) (sub : ∀ q, q ≤ n → skb t n q = q → EX t n d 0 0 0 1 (fun Q s => w_X4_readProduct (nI d) Q Rs s) (fun Q s => w_X12_product Q Rm s) q) (hq : q ≤ n) (qq : skb t n q = q)
    (rest : ∀ q', q < q' → q' ≤ n → skb t n q' = q' → EX t n d 0 0 1 1 (fun Q s => ∀ x : Nat, x ≤ q' → l_X4_readSum_13 (nI d) Q Rs (nI d) (nI x) s) (fun Q s => l_X12_sum_4 Q Rm s) q') : EX t n d 0 0 1 1 (fun Q s => ∀ x : Nat, x ≤ q → l_X4_readSum_13 (nI d) Q Rs (nI d) (nI x) s) (fun Q s => l_X12_sum_4 Q Rm s) q := by
  have qn (c : Nat) (hc : c < 128) (e : ch t n q = c) : q + 1 ≤ n := by
    rcases Nat.lt_or_ge q n with z | z
    · exact z
    · rw [ch_end z] at e; omega
  by_cases c0 : ch t n q = 43
  · obtain ⟨o, C, M, G⟩ := EX_op (v := -9) (x := (2, 0)) (RCl := fun q' Q s => ∀ x : Nat, x ≤ q' → l_X4_readSum_13 (nI d) Q Rs (nI d) (nI x) s) (RMl := fun Q s => l_X12_sum_4 Q Rm s) n150 (qn 43 (by omega) c0) sub (by decide) (.inr (.inr (by decide))) (opr (by decide)) rest
    refine ⟨o, ?_, ?_, G⟩
    · intro Q s p c T hp hq' e3 e29 hc hS hF y hy
      unfold l_X4_readSum_13
      intro P hP
      refine hP _ _ ⟨fun z => absurd z (by rw [T.1]; exact nI_nlt (by omega) (by have := T.2.1.1; omega)), fun _ => ?_⟩
      exact c_passQ (c := 43) T hp hq' e3 (by omega) (fun _ s' m => m_if1B ⟨fun _ => C Q s s' c (fun s' => P (nI y + 1) s') T m e29 hc hS hF (fun q' s' h1 h2 => by rw [nI_1]; exact h2 (y + 1) (by omega) P hP), fun z => absurd z (by decide)⟩) (fun z => absurd c0 z)
    · intro Q s p c T hp hq' e4 e5 e8 e20 hc hS hF
      unfold l_X12_sum_4
      intro P hP
      refine hP _ ⟨fun z => absurd e5 z, fun _ => ?_⟩
      exact m_tsQ (c := 43) T hp hq' e4 e5 (by omega) (fun _ s' m => m_if1B ⟨fun _ => M Q s s' c (fun s' => P s') T m e5 e8 e20 hc hS hF (fun s' h => h P hP) (fun s' ne h => hP s' ⟨fun _ => h, fun z => absurd z ne⟩), fun z => absurd z (by decide)⟩) (fun z => absurd c0 z)
  by_cases c1 : ch t n q = 45
  · obtain ⟨o, C, M, G⟩ := EX_op (v := -10) (x := (3, 0)) (RCl := fun q' Q s => ∀ x : Nat, x ≤ q' → l_X4_readSum_13 (nI d) Q Rs (nI d) (nI x) s) (RMl := fun Q s => l_X12_sum_4 Q Rm s) n150 (qn 45 (by omega) c1) sub (by decide) (.inr (.inr (by decide))) (opr (by decide)) rest
    refine ⟨o, ?_, ?_, G⟩
    · intro Q s p c T hp hq' e3 e29 hc hS hF y hy
      unfold l_X4_readSum_13
      intro P hP
      refine hP _ _ ⟨fun z => absurd z (by rw [T.1]; exact nI_nlt (by omega) (by have := T.2.1.1; omega)), fun _ => ?_⟩
      refine c_passQ (c := 43) T hp hq' e3 (by omega) (fun z => absurd z c0) (fun _ s1 m1 => m_if0B ?_)
      have M1 : mv s s1 q q := m1
      exact c_passQ (c := 45) (CT_mv T M1) hq qq M1.2.2.1 (by omega) (fun _ s' m => m_if1B ⟨fun _ => C Q s s' c (fun s' => P (nI y + 1) s') T (M1.trans m) e29 hc hS hF (fun q' s' h1 h2 => by rw [nI_1]; exact h2 (y + 1) (by omega) P hP), fun z => absurd z (by decide)⟩) (fun z => absurd c1 z)
    · intro Q s p c T hp hq' e4 e5 e8 e20 hc hS hF
      unfold l_X12_sum_4
      intro P hP
      refine hP _ ⟨fun z => absurd e5 z, fun _ => ?_⟩
      refine m_tsQ (c := 43) T hp hq' e4 e5 (by omega) (fun z => absurd z c0) (fun _ s1 m1 => m_if0B ?_)
      have M1 : mvM s s1 q := m1
      exact m_tsQ (c := 45) (MT_mv T M1) hq qq M1.2.2 ((M1.2.1 5 (by omega)).trans e5) (by omega) (fun _ s' m => m_if1B ⟨fun _ => M Q s s' c (fun s' => P s') T (M1.trans m) e5 e8 e20 hc hS hF (fun s' h => h P hP) (fun s' ne h => hP s' ⟨fun _ => h, fun z => absurd z ne⟩), fun z => absurd z (by decide)⟩) (fun z => absurd c1 z)
  refine ⟨.inr (q, []), ?_, ?_, fun q' l eo => ?_, fun _ _ eo => by cases eo⟩
  · intro Q s p c T hp hq' e3 e29 hc hS hF y hy
    unfold l_X4_readSum_13
    intro P hP
    refine hP _ _ ⟨fun z => absurd z (by rw [T.1]; exact nI_nlt (by omega) (by have := T.2.1.1; omega)), fun _ => ?_⟩
    refine c_passQ (c := 43) T hp hq' e3 (by omega) (fun z => absurd z c0) (fun _ s1 m1 => m_if0B ?_)
    have M1 : mv s s1 q q := m1
    refine c_passQ (c := 45) (CT_mv T M1) hq qq M1.2.2.1 (by omega) (fun z => absurd z c1) (fun _ s2 m2 => m_if0B ?_)
    have M2 : mv s s2 q q := M1.trans m2
    have ok := okC_mv (t := t) e29 hq M2
    rw [qq] at ok
    exact m_if0A (hS _ _ rfl _ ok)
  · intro Q s p c T hp hq' e4 e5 e8 e20 hc hS hF
    unfold l_X12_sum_4
    intro P hP
    refine hP _ ⟨fun z => absurd e5 z, fun _ => ?_⟩
    refine m_tsQ (c := 43) T hp hq' e4 e5 (by omega) (fun z => absurd z c0) (fun _ s1 m1 => m_if0B ?_)
    have M1 : mvM s s1 q := m1
    refine m_tsQ (c := 45) (MT_mv T M1) hq qq M1.2.2 ((M1.2.1 5 (by omega)).trans e5) (by omega) (fun z => absurd z c1) (fun _ s2 m2 => m_if0B ?_)
    have M2 : mvM s s2 q := M1.trans m2
    have ok := okM_mv (t := t) e20 hq M2
    rw [qq] at ok
    exact ⟨fun z => absurd rfl z, fun _ => hS _ _ rfl _ ok⟩
  · cases eo
    exact ⟨by rw [List.length_nil]; omega, by omega, hq, qq, fun x hx => (by cases hx), fun h => rfl⟩
theorem EX_ploop {t : Nat → Nat} {n d : Nat} {Rs : Int32 → (Int32 → ac_m → Prop) → ac_m → Prop} {Rm : (ac_m → Prop) → ac_m → Prop} (n150 : n ≤ 150) (sub : ∀ q, q ≤ n → skb t n q = q → EX t n d 0 0 0 1 (fun Q s => w_X4_readUnit (nI d) Q Rs s) (fun Q s => w_X12_one Q Rm s) q) : ∀ (f q : Nat), n ≤ f + q → q ≤ n → skb t n q = q → EX t n d 0 0 1 1 (fun Q s => ∀ x : Nat, x ≤ q → l_X4_readProduct_13 (nI d) Q Rs (nI d) (nI x) s) (fun Q s => l_X12_product_4 Q Rm s) q
  | 0, q, hf, hq, qq => EX_pstep n150 sub hq qq (fun q' h1 h2 => by omega)
  | f + 1, q, hf, hq, qq => EX_pstep n150 sub hq qq (fun q' h1 h2 h3 => EX_ploop n150 sub f q' (by omega) h2 h3)
theorem EX_sloop {t : Nat → Nat} {n d : Nat} {Rs : Int32 → (Int32 → ac_m → Prop) → ac_m → Prop} {Rm : (ac_m → Prop) → ac_m → Prop} (n150 : n ≤ 150) (sub : ∀ q, q ≤ n → skb t n q = q → EX t n d 0 0 0 1 (fun Q s => w_X4_readProduct (nI d) Q Rs s) (fun Q s => w_X12_product Q Rm s) q) : ∀ (f q : Nat), n ≤ f + q → q ≤ n → skb t n q = q → EX t n d 0 0 1 1 (fun Q s => ∀ x : Nat, x ≤ q → l_X4_readSum_13 (nI d) Q Rs (nI d) (nI x) s) (fun Q s => l_X12_sum_4 Q Rm s) q
  | 0, q, hf, hq, qq => EX_sstep n150 sub hq qq (fun q' h1 h2 => by omega)
  | f + 1, q, hf, hq, qq => EX_sstep n150 sub hq qq (fun q' h1 h2 h3 => EX_sloop n150 sub f q' (by omega) h2 h3)
theorem PF_pl {Rm : (ac_m → Prop) → ac_m → Prop} : PF (fun Q s => l_X12_product_4 Q Rm s) := fun Q s ne h P hP => hP s ⟨fun _ => h, fun z => absurd z ne⟩
theorem PF_sl {Rm : (ac_m → Prop) → ac_m → Prop} : PF (fun Q s => l_X12_sum_4 Q Rm s) := fun Q s ne h P hP => hP s ⟨fun _ => h, fun z => absurd z ne⟩
theorem PF_one {Rm : (ac_m → Prop) → ac_m → Prop} : PF (fun Q s => w_X12_one Q Rm s) := fun Q s ne h => ⟨fun z => absurd z ne, fun _ => h⟩
theorem PF_product {Rm : (ac_m → Prop) → ac_m → Prop} : PF (fun Q s => w_X12_product Q Rm s) := fun Q s ne h => PF_one (Rm := Rm) _ s ne (PF_pl (Rm := Rm) _ s ne h)
theorem PF_sum {Rm : (ac_m → Prop) → ac_m → Prop} : PF (fun Q s => w_X12_sum Q Rm s) := fun Q s ne h => PF_product (Rm := Rm) _ s ne (PF_sl (Rm := Rm) _ s ne h)
theorem EX_product {t : Nat → Nat} {n d q : Nat} {Rs : Int32 → (Int32 → ac_m → Prop) → ac_m → Prop} {Rm : (ac_m → Prop) → ac_m → Prop} (n150 : n ≤ 150) (sub : ∀ q, q ≤ n → skb t n q = q → EX t n d 0 0 0 1 (fun Q s => w_X4_readUnit (nI d) Q Rs s) (fun Q s => w_X12_one Q Rm s) q) (hq : q ≤ n) (qq : skb t n q = q) : EX t n d 0 0 0 1 (fun Q s => w_X4_readProduct (nI d) Q Rs s) (fun Q s => w_X12_product Q Rm s) q :=
  EX_seqK (RC2 := fun Q s => l_X4_readProduct_13 (nI d) Q Rs (nI d) (nI 0) s) (RM2 := fun Q s => l_X12_product_4 Q Rm s) (fun Q r3 s3 => (¬ r3 = 0 → (l_X4_readProduct_13 (nI d) Q Rs (nI d) (0 : Int32) s3)) ∧ (r3 = 0 → (Q (0 : Int32) s3))) (fun Q s h => m_if0A h) (fun Q s h => m_if1A h) (sub q hq qq) PF_pl (fun q1 _ h1 h2 _ => EX_iff (fun Q s h => h 0 (by omega)) (fun _ _ h => h) (EX_ploop n150 sub n q1 (by omega) h1 h2))
theorem EX_sum {t : Nat → Nat} {n d q : Nat} {Rs : Int32 → (Int32 → ac_m → Prop) → ac_m → Prop} {Rm : (ac_m → Prop) → ac_m → Prop} (n150 : n ≤ 150) (sub : ∀ q, q ≤ n → skb t n q = q → EX t n d 0 0 0 1 (fun Q s => w_X4_readProduct (nI d) Q Rs s) (fun Q s => w_X12_product Q Rm s) q) (hq : q ≤ n) (qq : skb t n q = q) : EX t n d 0 0 0 1 (fun Q s => w_X4_readSum (nI d) Q Rs s) (fun Q s => w_X12_sum Q Rm s) q :=
  EX_seqK (RC2 := fun Q s => l_X4_readSum_13 (nI d) Q Rs (nI d) (nI 0) s) (RM2 := fun Q s => l_X12_sum_4 Q Rm s) (fun Q r3 s3 => (¬ r3 = 0 → (l_X4_readSum_13 (nI d) Q Rs (nI d) (0 : Int32) s3)) ∧ (r3 = 0 → (Q (0 : Int32) s3))) (fun Q s h => m_if0A h) (fun Q s h => m_if1A h) (sub q hq qq) PF_sl (fun q1 _ h1 h2 _ => EX_iff (fun Q s h => h 0 (by omega)) (fun _ _ h => h) (EX_sloop n150 sub n q1 (by omega) h1 h2))
theorem EX_tk {t : Nat → Nat} {n : Nat} (T0 : okT t n) (n150 : n ≤ 150) : ∀ (k d q : Nat), 7 ≤ k + d → d ≤ 6 → q ≤ n → skb t n q = q → EX t n d 0 0 0 1 (fun Q s => tk_X4_readSum k (nI d) Q s) (fun Q s => tk_X12_sum k Q s) q
  | 0, d, q, h, hd, _, _ => by omega
  | k + 1, d, q, h, hd, hq, qq => by
    have pf : d < 6 → PF (tk_X12_sum k) := fun h6 => by
      cases k with
      | zero => omega
      | succ k => exact PF_sum
    exact EX_sum (Rs := tk_X4_readSum k) (Rm := tk_X12_sum k) n150 (fun q1 h1 h2 => EX_product n150 (fun q2 h3 h4 => EX_unit T0 n150 hd pf (fun h6 q3 h5 h7 => EX_tk T0 n150 k (d + 1) q3 (by omega) (by omega) h5 h7) h3 h4) h1 h2) hq qq
