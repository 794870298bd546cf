/-! WHERE TO LOOK NEXT -/
def gT (s : ac_m) (F f t d : Nat) : Int32 := gK s F f (t / 30) (t % 30 + 1) d
/-- how many that are allowed leave so much grass on that day -/
noncomputable def cL (s : ac_m) (F f d g : Nat) : Nat → Int32
  | 0 => 0
  | t + 1 => if okB s F f t = true ∧ gT s F f t d = nI g then cL s F f d g t + 1 else cL s F f d g t
noncomputable def wR (s : ac_m) (F f d : Nat) : Nat → Int32
  | 0 => 0
  | t + 1 => if okB s F f t = true then (if wR s F f d t < cL s F f d (gT s F f t d).toNatClampNeg (t + 1) then cL s F f d (gT s F f t d).toNatClampNeg (t + 1) else wR s F f d t) else wR s F f d t
theorem gK_bd {s : ac_m} {F f k w d : Nat} (en : En s F (cpx s)) (hf : f < F) (w1 : 1 ≤ w) (w2 : w ≤ 30) : ∃ g, g < 100 ∧ gK s F f k w d = nI g := by
  have hF := en.2.1
  have v := (En_dys (En_xK (κ := nI k) en hf w1 w2) d).2.2.2.1.2.1 f (by omega)
  obtain ⟨g, hg, e⟩ := nI_of2 (M := 99) (n := 99) rfl (show ¬ gK s F f k w d < 0 by unfold gK; grind) v.2.1
  exact ⟨g, by omega, e⟩
theorem gT_bd {s : ac_m} {F f t d : Nat} (en : En s F (cpx s)) (hf : f < F) : ∃ g, g < 100 ∧ gT s F f t d = nI g := gK_bd en hf (by omega) (by omega)
theorem cL_nI {s : ac_m} {F f d g : Nat} : ∀ t, ∃ m, m ≤ t ∧ cL s F f d g t = nI m
  | 0 => ⟨0, Nat.le_refl 0, rfl⟩
  | t + 1 => by
    obtain ⟨m, hm, e⟩ := cL_nI (s := s) (F := F) (f := f) (d := d) (g := g) t
    rw [cL]
    split
    · exact ⟨m + 1, by omega, by rw [e, nI_1]⟩
    · exact ⟨m, by omega, e⟩
theorem wR_ch {s : ac_m} {F f d : Nat} (en : En s F (cpx s)) (hf : f < F) : ∀ t, t ≤ 1000 → (∀ g, g < 100 → cL s F f d g t ≤ wR s F f d t) ∧ (wR s F f d t = 0 ∨ ∃ g, g < 100 ∧ wR s F f d t = cL s F f d g t) ∧ 0 ≤ wR s F f d t
  | 0, _ => ⟨fun g _ => Int32.le_refl _, .inl rfl, Int32.le_refl _⟩
  | t + 1, h => by
    obtain ⟨h1, h2, h3⟩ := wR_ch (d := d) en hf t (by omega)
    obtain ⟨G, hG, eG⟩ := gT_bd (t := t) (d := d) en hf
    have cG : (gT s F f t d).toNatClampNeg = G := by rw [eG]; exact cl_nI (by omega)
    by_cases c : okB s F f t = true
    · have same : ∀ g, g < 100 → g ≠ G → cL s F f d g (t + 1) = cL s F f d g t := by
        intro g hg hne
        rw [cL, if_neg (fun z => hne ((nI_eq (by omega) (by omega)).1 (z.2.symm.trans eG)))]
      have more : cL s F f d G (t + 1) = cL s F f d G t + 1 := by rw [cL, if_pos ⟨c, eG⟩]
      obtain ⟨m, hm, em⟩ := cL_nI (s := s) (F := F) (f := f) (d := d) (g := G) t
      have m1 : cL s F f d G (t + 1) = nI (m + 1) := by rw [more, em, nI_1]
      have lt : cL s F f d G t < cL s F f d G (t + 1) := by rw [m1, em]; exact nI_lt (by omega) (by omega)
      have p0 : 0 ≤ cL s F f d G (t + 1) := by rw [m1]; exact nI_pos' (by omega)
      rw [wR, if_pos c, cG]
      by_cases q : wR s F f d t < cL s F f d G (t + 1)
      · rw [if_pos q]
        refine ⟨fun g hg => ?_, .inr ⟨G, hG, rfl⟩, p0⟩
        by_cases e : g = G
        · rw [e]; exact Int32.le_refl _
        · rw [same g hg e]; have := h1 g hg; grind
      · rw [if_neg q]
        refine ⟨fun g hg => ?_, ?_, h3⟩
        · by_cases e : g = G
          · rw [e]; grind
          · rw [same g hg e]; exact h1 g hg
        · rcases h2 with h2 | ⟨g, hg, eg⟩
          · exact .inl h2
          · right
            by_cases e : g = G
            · subst e; exact absurd lt (by rw [← eg]; exact q)
            · exact ⟨g, hg, by rw [same g hg e]; exact eg⟩
    · have same : ∀ g, cL s F f d g (t + 1) = cL s F f d g t := fun g => by rw [cL, if_neg (fun z => c z.1)]
      rw [wR, if_neg c]
      refine ⟨fun g hg => by rw [same g]; exact h1 g hg, ?_, h3⟩
      rcases h2 with h2 | ⟨g, hg, eg⟩
      · exact .inl h2
      · exact .inr ⟨g, hg, by rw [same g]; exact eg⟩
theorem mxq_ch {c : Nat → Int32} : ∀ n, (∀ g, g < n → c g ≤ mxq c n) ∧ (mxq c n = 0 ∨ ∃ g, g < n ∧ mxq c n = c g) ∧ 0 ≤ mxq c n
  | 0 => ⟨fun g h => absurd h (Nat.not_lt_zero g), .inl rfl, Int32.le_refl _⟩
  | n + 1 => by
    obtain ⟨h1, h2, h3⟩ := mxq_ch (c := c) n
    rw [mxq]
    by_cases q : mxq c n < c n
    · rw [if_pos q]
      refine ⟨fun g hg => ?_, .inr ⟨n, by omega, rfl⟩, by grind⟩
      by_cases e : g = n
      · rw [e]; exact Int32.le_refl _
      · have := h1 g (by omega); grind
    · rw [if_neg q]
      refine ⟨fun g hg => ?_, ?_, h3⟩
      · by_cases e : g = n
        · rw [e]; grind
        · exact h1 g (by omega)
      · rcases h2 with h2 | ⟨g, hg, eg⟩
        · exact .inl h2
        · exact .inr ⟨g, by omega, eg⟩
theorem wR_mx {s : ac_m} {F f d t : Nat} (en : En s F (cpx s)) (hf : f < F) (ht : t ≤ 1000) : wR s F f d t = mxq (fun g => cL s F f d g t) 100 := by
  obtain ⟨a1, a2, a3⟩ := wR_ch (d := d) en hf t ht
  obtain ⟨b1, b2, b3⟩ := mxq_ch (c := fun g => cL s F f d g t) 100
  have l1 : wR s F f d t ≤ mxq (fun g => cL s F f d g t) 100 := by
    rcases a2 with e | ⟨g, hg, e⟩
    · rw [e]; exact b3
    · rw [e]; exact b1 g hg
  have l2 : mxq (fun g => cL s F f d g t) 100 ≤ wR s F f d t := by
    rcases b2 with e | ⟨g, hg, e⟩
    · rw [e]; exact a3
    · rw [e]; exact a1 g hg
  exact Int32.le_antisymm l1 l2
/-! the best day, whatever stood there before -/
def bDL (L : Nat → Bool) (W : Nat → Int32) (z : Int32) : Nat → Int32 × Int32
  | 0 => (-1, z)
  | k + 1 => if L (k + 1) = true then bDL L W z k else if (bDL L W z k).1 = -1 ∨ W (k + 1) < (bDL L W z k).2 then (nI (k + 1), W (k + 1)) else bDL L W z k
theorem bDL_z {L : Nat → Bool} {W : Nat → Int32} {z z' : Int32} : ∀ k, k ≤ 12 → (bDL L W z k).1 = (bDL L W z' k).1 ∧ ((bDL L W z k).1 ≠ -1 → bDL L W z k = bDL L W z' k) ∧ ((∃ d, 1 ≤ d ∧ d ≤ k ∧ L d = false) → (bDL L W z k).1 ≠ -1)
  | 0, _ => ⟨rfl, fun h => absurd rfl h, fun ⟨d, h1, h2, _⟩ => absurd h1 (by omega)⟩
  | k + 1, hk => by
    obtain ⟨h1, h2, h3⟩ := bDL_z (L := L) (W := W) (z := z) (z' := z') k (by omega)
    have n1 : nI (k + 1) ≠ -1 := fun q => by have := nI_pos' (n := k + 1) (by omega); rw [q] at this; exact absurd this (by decide)
    rw [bDL, bDL]
    by_cases l : L (k + 1) = true
    · rw [if_pos l, if_pos l]
      refine ⟨h1, h2, fun ⟨d, d1, d2, d3⟩ => h3 ⟨d, d1, ?_, d3⟩⟩
      rcases Nat.lt_or_ge d (k + 1) with q | q
      · omega
      · have : d = k + 1 := by omega
        subst this; rw [l] at d3; cases d3
    · rw [if_neg l, if_neg l]
      by_cases c : (bDL L W z k).1 = -1
      · rw [if_pos (.inl c), if_pos (.inl (h1.symm.trans c))]
        exact ⟨rfl, fun _ => rfl, fun _ => n1⟩
      · rw [← h2 c]
        refine ⟨rfl, fun _ => rfl, fun _ => ?_⟩
        split
        · exact n1
        · exact c
theorem free_day : ∀ (n : Nat) (l : List Nat), l.length ≤ n → ∃ d, 1 ≤ d ∧ d ≤ n + 1 ∧ d ∉ l
  | 0, l, h => ⟨1, by omega, by omega, by
      have : l = [] := List.eq_nil_of_length_eq_zero (by omega)
      rw [this]; exact List.not_mem_nil⟩
  | n + 1, l, h => by
    by_cases c : n + 2 ∈ l
    · obtain ⟨d, d1, d2, d3⟩ := free_day n (l.erase (n + 2)) (by rw [List.length_erase_of_mem c]; omega)
      exact ⟨d, d1, by omega, fun z => d3 ((List.mem_erase_of_ne (by omega)).2 z)⟩
    · exact ⟨n + 2, by omega, by omega, c⟩
theorem c_tally {G : Nat → Nat} {c : Nat → Nat → Int32} {Q : ac_m → Prop} {s : ac_m} (h67 : ∀ e, 1 ≤ e → e ≤ 12 → ∀ g, g < 100 → s 67 (100 * e + g) = c e g) (h66 : ∀ e, 1 ≤ e → e ≤ 12 → s 66 e = nI (G e) ∧ G e < 100)
    (h : ∀ s', (∀ y, y ≠ 67 → s' y = s y) → (∀ e, 1 ≤ e → e ≤ 12 → ∀ g, g < 100 → s' 67 (100 * e + g) = if g = G e then c e g + 1 else c e g) → Q s') : w_X9_tally Q s := by
  unfold w_X9_tally l_X9_tally_2
  intro P hP
  refine loopUp (P := fun d => ∀ s', (∀ y, y ≠ 67 → s' y = s y) → (∀ e, 1 ≤ e → e ≤ 12 → ∀ g, g < 100 → s' 67 (100 * e + g) = if e ≤ d ∧ g = G e then c e g + 1 else c e g) → P (nI (d + 1)) s') 12 ?_ ?_ s (fun _ _ => rfl) (fun e e1 e2 g hg => by rw [if_neg (by omega)]; exact h67 e e1 e2 g hg)
  · intro s' f g
    refine hP _ _ ⟨fun _ => h s' f (fun e e1 e2 j hj => ?_), fun z => absurd (by decide) z⟩
    rw [g e e1 e2 j hj]
    by_cases q : j = G e
    · rw [if_pos ⟨e2, q⟩, if_pos q]
    · rw [if_neg (fun z => q z.2), if_neg q]
  · intro d hd ih s' f g
    obtain ⟨e6, l6⟩ := h66 (d + 1) (by omega) (by omega)
    have ex : nI (d + 1) * (100 : Int32) + nI (G (d + 1)) = nI (100 * (d + 1) + G (d + 1)) := by rw [show (100 : Int32) = nI 100 from rfl, nI_mul, nI_add, Nat.mul_comm]
    refine hP _ _ ⟨fun z => absurd z (nI_nlt (a := 12) (by omega) (by omega)), fun _ => ⟨vp_in_nI (by omega) (by omega), ?_⟩⟩
    rw [cl_nI (n := d + 1) (by omega), f 66 (by omega), e6, ex, cl_nI (by omega), nI_1]
    have v : vp_in (nI (100 * (d + 1) + G (d + 1))) 1300 := vp_in_nI (by omega) (by omega)
    refine ⟨fun z => absurd z (nI_pos (by omega)), fun _ => ⟨fun z => absurd z (nI_ge (b := 1300) (by omega) (by omega)), fun _ => ⟨v, v, ih _ (fun y hy => by rw [u_ne hy]; exact f y hy) (fun e e1 e2 j hj => ?_)⟩⟩⟩
    by_cases q : 100 * e + j = 100 * (d + 1) + G (d + 1)
    · have ed : e = d + 1 := by omega
      subst ed
      have ej : j = G (d + 1) := by omega
      subst ej
      rw [u_eq, g (d + 1) e1 e2 _ l6, if_neg (by omega), if_pos ⟨Nat.le_refl _, rfl⟩]
    · rw [u_at q, g e e1 e2 j hj]
      by_cases r : e ≤ d ∧ j = G e
      · rw [if_pos r, if_pos ⟨by omega, r.2⟩]
      · rw [if_neg r, if_neg (fun z => ?_)]
        have : e ≤ d ∨ e = d + 1 := by omega
        rcases this with y | y
        · exact r ⟨y, z.2⟩
        · subst y; exact q (by omega)
theorem c_weigh {d : Nat} {c : Nat → Int32} {Q : ac_m → Prop} {s : ac_m} (d1 : 1 ≤ d) (d2 : d ≤ 12) (h67 : ∀ g, g < 100 → s 67 (100 * d + g) = c g)
    (h1 : (s 65 7 = -1 ∨ mxq c 100 < s 65 8) → Q (ac_u (ac_u s 65 7 (nI d)) 65 8 (mxq c 100))) (h0 : ¬ (s 65 7 = -1 ∨ mxq c 100 < s 65 8) → Q s) : w_X9_weighDay (nI d) Q s := by
  unfold w_X9_weighDay l_X9_weighDay_4
  intro P hP
  refine loopUp (P := fun g => P (mxq c g) (nI g) s) 100 ?_ ?_
  · refine hP _ _ _ ⟨fun _ => ⟨fun z => h1 (.inl z), fun z => ⟨fun y => h0 (fun x => ?_), fun y => h1 (.inr (by grind))⟩⟩, fun z => absurd (by decide) z⟩
    rcases x with x | x
    · exact z x
    · grind
  · intro g hg ih
    have ex : nI d * (100 : Int32) + nI g = nI (100 * d + g) := by rw [show (100 : Int32) = nI 100 from rfl, nI_mul, nI_add, Nat.mul_comm]
    refine hP _ _ _ ⟨fun z => absurd z (nI_ge (b := 100) hg (by omega)), fun _ => ?_⟩
    rw [ex, cl_nI (by omega), h67 g hg, nI_1]
    rw [mxq] at ih
    exact ⟨fun z => absurd z (nI_pos (by omega)), fun _ => ⟨fun z => absurd z (nI_ge (b := 1300) (by omega) (by omega)), fun _ => ⟨vp_in_nI (by omega) (by omega), fun y hy => by rw [hy]; exact ih⟩⟩⟩
theorem c_hasLine {d : Nat} {Q : Int32 → ac_m → Prop} {s : ac_m} (hd : d ≤ 12) (h0 : s 34 d = -1 → Q 0 s) (h1 : ¬ s 34 d = -1 → Q 1 s) : w_X0_hasLine (nI d) Q s := by
  unfold w_X0_hasLine
  rw [cl_nI (by omega)]
  exact ⟨fun z => absurd z (nI_pos (by omega)), fun _ => ⟨fun z => absurd z (nI_nlt (a := 12) hd (by omega)), fun _ => ⟨vp_in_nI (by omega) (by omega), h0, h1⟩⟩⟩
