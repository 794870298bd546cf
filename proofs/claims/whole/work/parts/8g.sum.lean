/-! LAW: products and sums -/
theorem EX_op {t : Nat → Nat} {n d q : Nat} {v : Int32} {x : lPc} {RCu : (Int32 → ac_m → Prop) → ac_m → Prop} {RMu : (ac_m → Prop) → ac_m → Prop} {RCl : Nat → (Int32 → ac_m → Prop) → ac_m → Prop} {RMl : (ac_m → Prop) → ac_m → Prop} (n150 : n ≤ 150) (ql : q + 1 ≤ n)
    (sub : ∀ q, q ≤ n → skb t n q = q → EX t n d 0 0 0 1 RCu RMu q) (hv : v = lc x.1 x.2) (hx : lOK x.1 x.2) (hr : ∀ h, lRn (h + 2) [x] = some (h + 1)) (rest : ∀ q', q < q' → q' ≤ n → skb t n q' = q' → EX t n d 0 0 1 1 (RCl q') RMl q') :
    ∃ o, (∀ (Q : Int32 → ac_m → Prop) (s s1 : ac_m) (c : Nat) (K : ac_m → Prop), CT s t n → mv s s1 (q + 1) q → s 29 3 = nI c → c + 0 ≤ q → (∀ q' l, o = .inr (q', l) → ∀ s', okC t n s s' c q' l → Q 1 s') → (∀ kd pl, o = .inl (kd, pl) → ∀ s', badC s s' kd pl → Q 0 s') → (∀ q' s', q < q' → RCl q' Q s' → K s') → RCu (fun r76 s76 => (¬ r76 = 0 → w_X4_put 29 v (fun _ s87 => K s87) s76) ∧ (r76 = 0 → Q 0 s76)) s1)
      ∧ (∀ (Q : ac_m → Prop) (s s1 : ac_m) (c : Nat) (K : ac_m → Prop), MT s t n → mvM s s1 (q + 1) → s 69 5 = 0 → s 69 8 = nI d → s 69 20 = nI c → c + 0 ≤ q → (∀ q' l, o = .inr (q', l) → ∀ s', okM t n s s' c q' l → Q s') → (∀ kd pl, o = .inl (kd, pl) → ∀ s', badM n s s' kd pl → Q s') → (∀ s', RMl Q s' → K s') → (∀ s', ¬ s' 69 5 = 0 → Q s' → K s') → RMu (fun s60 => w_X12_notes x.1 x.2 (fun s66 => K s66) s60) s1) ∧ gO t n 0 0 1 1 q o := by
  have sk := skb_le' (t := t) (n := n) (p := q + 1) ql
  obtain ⟨o1, C1, M1, G1⟩ := sub _ sk.2.1 (skb_0 sk.2.2)
  rcases o1 with ⟨kd, pl⟩ | ⟨q1, l1⟩
  · refine ⟨.inl (kd, pl), ?_, ?_, fun _ _ eo => (by cases eo), G1.2⟩
    · intro Q s s1 c K T m1 e29 hc hS hF hK
      exact C1 _ s1 _ c (CT_mv T m1) ql rfl m1.2.2.1 (by rw [m1.1 29 (by omega)]; exact e29) (by omega) (fun _ _ eo => by cases eo) (fun kd pl eo s' bd => m_if0A (hF kd pl eo s' (okC_bad (okC_mv (t := t) e29 ql m1) bd)))
    · intro Q s s1 c K T m1 e5 e8 e20 hc hS hF hK hKf
      refine M1 _ s1 _ c (MT_mv T m1) ql rfl m1.2.2 ((m1.2.1 5 (by omega)).trans e5) ((m1.2.1 8 (by omega)).trans e8) ((m1.2.1 20 (by omega)).trans e20) (by omega) (fun _ _ eo => by cases eo) (fun kd pl eo s' bd => ?_)
      have ne : ¬ s' 69 5 = 0 := by rw [bd.2.1]; exact nI_k (G1.2 kd pl eo)
      exact PF_notes _ _ ne (hKf s' ne (hF kd pl eo s' (okM_bad (okM_mv (t := t) e20 ql m1) bd)))
  · obtain ⟨g1, g2, g3, g4, g5, g6⟩ := G1.1 q1 l1 rfl
    have qq1 : q < q1 := by omega
    obtain ⟨o2, C2, M2, G2⟩ := rest q1 qq1 g3 g4
    have stepC : ∀ {s s1 s2 : ac_m} {c : Nat}, CT s t n → mv s s1 (q + 1) q → s 29 3 = nI c → c + 0 ≤ q → okC t n s1 s2 c q1 l1 → ∀ (Q : Int32 → ac_m → Prop), (∀ s3, okC t n s s3 c q1 (l1 ++ [x]) → Q 1 s3) → w_X4_put 29 v Q s2 := by
      intro s s1 s2 c T m1 e29 hc ok Q h
      refine c_putL (t := t) (n := n) (q := q1) (c := c + l1.length) (x := x) ok.2.2.2.1 (by omega) hv ok.2.2.1 (fun s3 ok3 => h s3 ?_)
      exact ((okC_mv (t := t) e29 ql m1).trans ok).trans ok3
    have stepM : ∀ {s s1 s2 : ac_m} {c : Nat}, MT s t n → mvM s s1 (q + 1) → s 69 5 = 0 → s 69 20 = nI c → c + 0 ≤ q → okM t n s1 s2 c q1 l1 → ∀ (Q : ac_m → Prop), (∀ s3, okM t n s s3 c q1 (l1 ++ [x]) → Q s3) → w_X12_notes x.1 x.2 Q s2 := by
      intro s s1 s2 c T m1 e5 e20 hc ok Q h
      refine m_notesL (t := t) (n := n) (q := q1) (c := c + l1.length) (x := x) (ok.2.1.1.trans ((m1.2.1 5 (by omega)).trans e5)) ok.2.2.2.1 (by omega) ok.2.2.1 (fun s3 ok3 => h s3 ?_)
      exact ((okM_mv (t := t) e20 ql m1).trans ok).trans ok3
    have lx : (l1 ++ [x]).length = l1.length + 1 := by rw [List.length_append, List.length_singleton]
    rcases o2 with ⟨kd, pl⟩ | ⟨q2, l2⟩
    · refine ⟨.inl (kd, pl), ?_, ?_, fun _ _ eo => (by cases eo), G2.2⟩
      · intro Q s s1 c K T m1 e29 hc hS hF hK
        refine C1 _ s1 _ c (CT_mv T m1) ql rfl m1.2.2.1 (by rw [m1.1 29 (by omega)]; exact e29) (by omega) (fun q' l eo s2 ok => ?_) (fun _ _ eo => by cases eo)
        cases eo
        refine m_if1A (stepC T m1 e29 hc ok _ (fun s3 ok3 => hK q1 s3 qq1 ?_))
        obtain ⟨p3, hp3, hq3, e33⟩ := ok3.2.2.1
        exact C2 Q s3 p3 _ (okC_CT T ok3) hp3 hq3 e33 ok3.2.2.2.1 (by rw [lx]; omega) (fun _ _ eo => by cases eo) (fun kd pl eo s' bd => hF kd pl eo s' (okC_bad ok3 bd))
      · intro Q s s1 c K T m1 e5 e8 e20 hc hS hF hK hKf
        refine M1 _ s1 _ c (MT_mv T m1) ql rfl m1.2.2 ((m1.2.1 5 (by omega)).trans e5) ((m1.2.1 8 (by omega)).trans e8) ((m1.2.1 20 (by omega)).trans e20) (by omega) (fun q' l eo s2 ok => ?_) (fun _ _ eo => by cases eo)
        cases eo
        refine stepM T m1 e5 e20 hc ok _ (fun s3 ok3 => hK s3 ?_)
        obtain ⟨p3, hp3, hq3, e43⟩ := ok3.2.2.1
        exact M2 Q s3 p3 _ (frM_MT T ok3.1) hp3 hq3 e43 (ok3.2.1.1.trans e5) (ok3.2.1.2.2.trans e8) ok3.2.2.2.1 (by rw [lx]; omega) (fun _ _ eo => by cases eo) (fun kd pl eo s' bd => hF kd pl eo s' (okM_bad ok3 bd))
    · obtain ⟨k1, k2, k3, k4, k5, k6⟩ := G2.1 q2 l2 rfl
      refine ⟨.inr (q2, l1 ++ [x] ++ l2), ?_, ?_, fun q' l eo => ?_, fun _ _ eo => by cases eo⟩
      · intro Q s s1 c K T m1 e29 hc hS hF hK
        refine C1 _ s1 _ c (CT_mv T m1) ql rfl m1.2.2.1 (by rw [m1.1 29 (by omega)]; exact e29) (by omega) (fun q' l eo s2 ok => ?_) (fun _ _ eo => by cases eo)
        cases eo
        refine m_if1A (stepC T m1 e29 hc ok _ (fun s3 ok3 => hK q1 s3 qq1 ?_))
        obtain ⟨p3, hp3, hq3, e33⟩ := ok3.2.2.1
        exact C2 Q s3 p3 _ (okC_CT T ok3) hp3 hq3 e33 ok3.2.2.2.1 (by rw [lx]; omega) (fun q' l eo s' ok4 => by cases eo; exact hS _ _ rfl s' (ok3.trans ok4)) (fun _ _ eo => by cases eo)
      · intro Q s s1 c K T m1 e5 e8 e20 hc hS hF hK hKf
        refine M1 _ s1 _ c (MT_mv T m1) ql rfl m1.2.2 ((m1.2.1 5 (by omega)).trans e5) ((m1.2.1 8 (by omega)).trans e8) ((m1.2.1 20 (by omega)).trans e20) (by omega) (fun q' l eo s2 ok => ?_) (fun _ _ eo => by cases eo)
        cases eo
        refine stepM T m1 e5 e20 hc ok _ (fun s3 ok3 => hK s3 ?_)
        obtain ⟨p3, hp3, hq3, e43⟩ := ok3.2.2.1
        exact M2 Q s3 p3 _ (frM_MT T ok3.1) hp3 hq3 e43 (ok3.2.1.1.trans e5) (ok3.2.1.2.2.trans e8) ok3.2.2.2.1 (by rw [lx]; omega) (fun q' l eo s' ok4 => by cases eo; exact hS _ _ rfl s' (ok3.trans ok4)) (fun _ _ eo => by cases eo)
      · cases eo
        refine ⟨by rw [List.length_append, lx]; omega, by omega, k3, k4, fun y hy => ?_, fun h => ?_⟩
        · rcases List.mem_append.1 hy with z | z
          · rcases List.mem_append.1 z with w | w
            · exact g5 y w
            · rw [List.mem_singleton] at w; rw [w]; exact hx
          · exact k5 y z
        · rw [lRn_app, lRn_app, show h + 1 = (h + 1) + 0 from rfl, g6, Option.bind_some, show h + 1 + 1 = h + 2 from rfl, hr, Option.bind_some]
          exact k6 h
theorem opr {x : lPc} (hx : ¬ x.1 < 2) : ∀ h, lRn (h + 2) [x] = some (h + 1) := fun h => by
  rw [lRn, if_neg hx, if_pos (by omega)]; rfl
