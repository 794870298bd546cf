def hcT (Q : ac_m → Prop) (r1 : Int32) (s50 : ac_m) : Prop := ((s50 69 5) = 0 → (w_X12_skipWord  (fun s62 => vp_in r1 3 ∧ ((r1 = (0 : Int32) → (vp_in ((ac_u s62 69 7 ((s62 69 7) + (1 : Int32))) 72 r1.toNatClampNeg) 6 ∧ (w_X12_number (0 : Int32) (99 : Int32) (fun r119 s119 => vp_in ((ac_u s62 69 7 ((s62 69 7) + (1 : Int32))) 72 r1.toNatClampNeg) 6 ∧ (w_X12_number (0 : Int32) (9 : Int32) (fun r134 s134 => w_X12_sign (59 : Int32) (fun s274 => vp_in r1 3 ∧ ((¬ (s274 69 5) = 0 → (vp_in r1 3 ∧ (Q (ac_u s274 72 r1.toNatClampNeg ((s274 72 r1.toNatClampNeg) + (0 : Int32)))))) ∧ ((s274 69 5) = 0 → (vp_in r1 3 ∧ (Q (ac_u s274 72 r1.toNatClampNeg ((s274 72 r1.toNatClampNeg) + (1 : Int32)))))))) (ac_u s134 (75 + ((ac_u s62 69 7 ((s62 69 7) + (1 : Int32))) 72 r1.toNatClampNeg).toNatClampNeg) (1 : Int32).toNatClampNeg r134)) (ac_u s119 (75 + ((ac_u s62 69 7 ((s62 69 7) + (1 : Int32))) 72 r1.toNatClampNeg).toNatClampNeg) (0 : Int32).toNatClampNeg r119))) (ac_u s62 69 7 ((s62 69 7) + (1 : Int32)))))) ∧ (r1 = (1 : Int32) → (vp_in ((ac_u s62 69 7 ((s62 69 7) + (1 : Int32))) 72 r1.toNatClampNeg) 12 ∧ (w_X12_number (0 : Int32) (((ac_u s62 69 7 ((s62 69 7) + (1 : Int32))) 72 (0 : Int32).toNatClampNeg) - (1 : Int32)) (fun r158 s158 => vp_in ((ac_u s62 69 7 ((s62 69 7) + (1 : Int32))) 72 r1.toNatClampNeg) 12 ∧ (vp_in ((ac_u s62 69 7 ((s62 69 7) + (1 : Int32))) 72 r1.toNatClampNeg) 12 ∧ (w_X12_another ((ac_u s158 (89 + ((ac_u s62 69 7 ((s62 69 7) + (1 : Int32))) 72 r1.toNatClampNeg).toNatClampNeg) (0 : Int32).toNatClampNeg r158) (89 + ((ac_u s62 69 7 ((s62 69 7) + (1 : Int32))) 72 r1.toNatClampNeg).toNatClampNeg) (0 : Int32).toNatClampNeg) ((ac_u s158 (89 + ((ac_u s62 69 7 ((s62 69 7) + (1 : Int32))) 72 r1.toNatClampNeg).toNatClampNeg) (0 : Int32).toNatClampNeg r158) 72 (0 : Int32).toNatClampNeg) (fun r184 s184 => vp_in ((ac_u s62 69 7 ((s62 69 7) + (1 : Int32))) 72 r1.toNatClampNeg) 12 ∧ (w_X12_number (0 : Int32) (5 : Int32) (fun r198 s198 => vp_in ((ac_u s62 69 7 ((s62 69 7) + (1 : Int32))) 72 r1.toNatClampNeg) 12 ∧ (w_X12_number (1 : Int32) (30 : Int32) (fun r213 s213 => w_X12_sign (59 : Int32) (fun s274 => vp_in r1 3 ∧ ((¬ (s274 69 5) = 0 → (vp_in r1 3 ∧ (Q (ac_u s274 72 r1.toNatClampNeg ((s274 72 r1.toNatClampNeg) + (0 : Int32)))))) ∧ ((s274 69 5) = 0 → (vp_in r1 3 ∧ (Q (ac_u s274 72 r1.toNatClampNeg ((s274 72 r1.toNatClampNeg) + (1 : Int32)))))))) (ac_u s213 (89 + ((ac_u s62 69 7 ((s62 69 7) + (1 : Int32))) 72 r1.toNatClampNeg).toNatClampNeg) (3 : Int32).toNatClampNeg r213)) (ac_u s198 (89 + ((ac_u s62 69 7 ((s62 69 7) + (1 : Int32))) 72 r1.toNatClampNeg).toNatClampNeg) (2 : Int32).toNatClampNeg r198))) (ac_u s184 (89 + ((ac_u s62 69 7 ((s62 69 7) + (1 : Int32))) 72 r1.toNatClampNeg).toNatClampNeg) (1 : Int32).toNatClampNeg r184))) (ac_u s158 (89 + ((ac_u s62 69 7 ((s62 69 7) + (1 : Int32))) 72 r1.toNatClampNeg).toNatClampNeg) (0 : Int32).toNatClampNeg r158)))) (ac_u s62 69 7 ((s62 69 7) + (1 : Int32)))))) ∧ (¬ r1 = (0 : Int32) ∧ ¬ r1 = (1 : Int32) → (vp_in ((ac_u s62 69 7 ((s62 69 7) + (1 : Int32))) 72 r1.toNatClampNeg) 10 ∧ (w_X12_number (0 : Int32) (5 : Int32) (fun r230 s230 => vp_in ((ac_u s62 69 7 ((s62 69 7) + (1 : Int32))) 72 r1.toNatClampNeg) 10 ∧ (vp_in ((ac_u s62 69 7 ((s62 69 7) + (1 : Int32))) 72 r1.toNatClampNeg) 10 ∧ (w_X12_another ((ac_u s230 (116 + ((ac_u s62 69 7 ((s62 69 7) + (1 : Int32))) 72 r1.toNatClampNeg).toNatClampNeg) (0 : Int32).toNatClampNeg r230) (116 + ((ac_u s62 69 7 ((s62 69 7) + (1 : Int32))) 72 r1.toNatClampNeg).toNatClampNeg) (0 : Int32).toNatClampNeg) (6 : Int32) (fun r252 s252 => vp_in ((ac_u s62 69 7 ((s62 69 7) + (1 : Int32))) 72 r1.toNatClampNeg) 10 ∧ (w_X12_number (1 : Int32) (9 : Int32) (fun r267 s267 => w_X12_sign (59 : Int32) (fun s274 => vp_in r1 3 ∧ ((¬ (s274 69 5) = 0 → (vp_in r1 3 ∧ (Q (ac_u s274 72 r1.toNatClampNeg ((s274 72 r1.toNatClampNeg) + (0 : Int32)))))) ∧ ((s274 69 5) = 0 → (vp_in r1 3 ∧ (Q (ac_u s274 72 r1.toNatClampNeg ((s274 72 r1.toNatClampNeg) + (1 : Int32)))))))) (ac_u s267 (116 + ((ac_u s62 69 7 ((s62 69 7) + (1 : Int32))) 72 r1.toNatClampNeg).toNatClampNeg) (2 : Int32).toNatClampNeg r267)) (ac_u s252 (116 + ((ac_u s62 69 7 ((s62 69 7) + (1 : Int32))) 72 r1.toNatClampNeg).toNatClampNeg) (1 : Int32).toNatClampNeg r252))) (ac_u s230 (116 + ((ac_u s62 69 7 ((s62 69 7) + (1 : Int32))) 72 r1.toNatClampNeg).toNatClampNeg) (0 : Int32).toNatClampNeg r230)))) (ac_u s62 69 7 ((s62 69 7) + (1 : Int32)))))))) s50)) ∧ (¬ (s50 69 5) = 0 → (Q s50))
theorem clause_eq {Q : ac_m → Prop} {s : ac_m} : w_X12_clause Q s = (w_X12_kindHere  (fun r1 s1 => (¬ r1 = (-1 : Int32) → (((s1 69 7) = (60 : Int32) → (w_X12_wrong (3 : Int32) (s1 69 4) (fun s50 => hcT Q r1 s50) s1)) ∧ (¬ (s1 69 7) = (60 : Int32) → (vp_in r1 3 ∧ (w_X12_mostOf r1 (fun r38 s38 => (¬ (s1 72 r1.toNatClampNeg) = r38 → (hcT Q r1 s38)) ∧ ((s1 72 r1.toNatClampNeg) = r38 → (w_X12_wrong (3 : Int32) (s38 69 4) (fun s50 => hcT Q r1 s50) s38))) s1))))) ∧ (r1 = (-1 : Int32) → (w_X12_wrong (1 : Int32) (s1 69 4) (fun s16 => hcT Q r1 s16) s1))) s) := rfl
theorem c_disp {t : Nat → Nat} {n p q : Nat} {Q : Int32 → ac_m → Prop} {s : ac_m} (T : CT s t n) (hp : p ≤ n) (hs : skb t n p = q) (e3 : s 1 3 = nI p)
    (h1 : wdA t n q 1 → ∀ s', mv s s' (q + 4) q → w_X3_readFolk (fun r s => ac_bo r ∧ Q r s) s')
    (h2 : ¬ wdA t n q 1 → wdA t n q 2 → ∀ s', mv s s' (q + 5) q → w_X3_readBeast (fun r s => ac_bo r ∧ Q r s) s')
    (h3 : ¬ wdA t n q 1 → ¬ wdA t n q 2 → wdA t n q 3 → ∀ s', mv s s' (q + 4) q → w_X3_readFair (fun r s => ac_bo r ∧ Q r s) s')
    (h0 : ¬ wdA t n q 1 → ¬ wdA t n q 2 → ¬ wdA t n q 3 → ∀ s', fl s s' 1 q → Q 0 s') : w_X3_readClause Q s := by
  obtain ⟨qn, pq, qq⟩ := skq hp hs
  unfold w_X3_readClause
  refine c_wordQ T hp hs e3 (by decide) (fun w s1 m1 => m_if1B (h1 w s1 m1)) (fun w1 s1 m1 => m_if0B ?_)
  refine c_wordQ (CT_mv T m1) qn qq m1.2.2.1 (by decide) (fun w s2 m2 => m_if1B (h2 w1 w s2 (m1.trans m2))) (fun w2 s2 m2 => m_if0B ?_)
  have M2 := m1.trans m2
  refine c_wordQ (CT_mv T M2) qn qq M2.2.2.1 (by decide) (fun w s3 m3 => m_if1B (h3 w1 w2 w s3 (M2.trans m3))) (fun w3 s3 m3 => m_if0B ?_)
  have M3 := M2.trans m3
  exact c_fail (kd := 1) M3.2.2.2 (fun s' f => ⟨bo_0, h0 w1 w2 w3 s' (fl_mv M3 f)⟩)
theorem m_kind {t : Nat → Nat} {n p q : Nat} {Q : Int32 → ac_m → Prop} {s : ac_m} (T : MT s t n) (hp : p ≤ n) (hs : skb t n p = q) (e4 : s 69 4 = nI p) (e5 : s 69 5 = 0)
    (h1 : wdA t n q 1 → ∀ s', mvM s s' q → Q 0 s')
    (h2 : ¬ wdA t n q 1 → wdA t n q 2 → ∀ s', mvM s s' q → Q 1 s')
    (h3 : ¬ wdA t n q 1 → ¬ wdA t n q 2 → wdA t n q 3 → ∀ s', mvM s s' q → Q 2 s')
    (h0 : ¬ wdA t n q 1 → ¬ wdA t n q 2 → ¬ wdA t n q 3 → ∀ s', mvM s s' q → Q (-1) s') : w_X12_kindHere Q s := by
  obtain ⟨qn, pq, qq⟩ := skq hp hs
  have f5 : ∀ {s' e}, mvM s s' e → s' 69 5 = 0 := fun m => by rw [m.2.1 5 (by omega)]; exact e5
  unfold w_X12_kindHere
  refine m_isWordQ (i := 1) T hp hs e4 e5 wd1 (fun Q s h => six4 (by decide) (by decide +kernel) h) (fun w s1 m1 => m_if1B (h1 w s1 m1)) (fun w1 s1 m1 => m_if0B ?_)
  refine m_isWordQ (i := 2) (MT_mv T m1) qn qq m1.2.2 (f5 m1) wd2 (fun Q s h => six5 (by decide) (by decide) (by decide +kernel) h) (fun w s2 m2 => m_if1B (h2 w1 w s2 (m1.trans m2))) (fun w2 s2 m2 => m_if0B ?_)
  have M2 := m1.trans m2
  exact m_isWordQ (i := 3) (MT_mv T M2) qn qq M2.2.2 (f5 M2) wd3 (fun Q s h => six4 (by decide) (by decide +kernel) h) (fun w s3 m3 => m_if1B (h3 w1 w2 w s3 (M2.trans m3))) (fun w3 s3 m3 => m_if0B (h0 w1 w2 w3 s3 (M2.trans m3)))
theorem c_folkR {Q : Int32 → ac_m → Prop} {s : ac_m} {F : Nat} (e : s 14 10 = nI F) (hm : F ≤ 6) (h : F < 6 → (fun Z Y s => rcI 15 6 F 0 (fun _ => 99) Z (fun s => rcI 16 6 F 0 (fun _ => 9) Z (fun s => rcS 59 Z (fun s => Y s) s) s) s) (Q 0) (Q 1) (ac_u s 14 10 (nI (F + 1)))) (h0 : F = 6 → w_X10_fail 3 (fun r s => ac_bo r ∧ Q r s) s) : w_X3_readFolk Q s := by
  unfold w_X3_readFolk
  rw [e, nI_1]
  refine ⟨fun z => h ((nI_ltI (b := 6) (by omega) (by omega)).1 z), fun z => h0 ?_⟩
  rcases Nat.lt_or_ge F 6 with c | c
  · exact absurd (nI_lt (b := 6) c (by omega)) z
  · omega
theorem c_beastR {Q : Int32 → ac_m → Prop} {s : ac_m} {B : Nat} (e : s 14 11 = nI B) (hm : B ≤ 12) (h : B < 12 → (fun Z Y s => rcI 17 13 B 0 (fun s => s 14 10 - 1) Z (fun s => rcU 17 13 18 13 B 0 (fun s => s 14 10 - 1) Z (fun s => rcI 19 13 B 0 (fun _ => 5) Z (fun s => rcI 20 13 B 1 (fun _ => 30) Z (fun s => rcS 59 Z (fun s => Y s) s) s) s) s) s) (Q 0) (Q 1) (ac_u s 14 11 (nI (B + 1)))) (h0 : B = 12 → w_X10_fail 3 (fun r s => ac_bo r ∧ Q r s) s) : w_X3_readBeast Q s := by
  unfold w_X3_readBeast
  rw [e, nI_1]
  refine ⟨fun z => h ((nI_ltI (b := 12) (by omega) (by omega)).1 z), fun z => h0 ?_⟩
  rcases Nat.lt_or_ge B 12 with c | c
  · exact absurd (nI_lt (b := 12) c (by omega)) z
  · omega
theorem c_fairR {Q : Int32 → ac_m → Prop} {s : ac_m} {A : Nat} (e : s 14 12 = nI A) (hm : A ≤ 10) (h : A < 10 → (fun Z Y s => rcI 21 10 A 0 (fun _ => 5) Z (fun s => rcU 21 10 22 10 A 0 (fun _ => 5) Z (fun s => rcI 23 10 A 1 (fun _ => 9) Z (fun s => rcS 59 Z (fun s => Y s) s) s) s) s) (Q 0) (Q 1) (ac_u s 14 12 (nI (A + 1)))) (h0 : A = 10 → w_X10_fail 3 (fun r s => ac_bo r ∧ Q r s) s) : w_X3_readFair Q s := by
  unfold w_X3_readFair
  rw [e, nI_1]
  refine ⟨fun z => h ((nI_ltI (b := 10) (by omega) (by omega)).1 z), fun z => h0 ?_⟩
  rcases Nat.lt_or_ge A 10 with c | c
  · exact absurd (nI_lt (b := 10) c (by omega)) z
  · omega
theorem cR_i0 {s : ac_m} {F B A : Nat} {w : Nat → Nat → Int32} (h : cR s F B A w) : cR (ac_u s 14 10 (nI (F + 1))) (F + 1) B A w := ⟨u_eq, by rw [u_at (by omega)]; exact h.2.1, by rw [u_at (by omega)]; exact h.2.2.1, fun k hk i => by rw [u_ne (by omega)]; exact h.2.2.2 k hk i⟩
theorem cR_i1 {s : ac_m} {F B A : Nat} {w : Nat → Nat → Int32} (h : cR s F B A w) : cR (ac_u s 14 11 (nI (B + 1))) F (B + 1) A w := ⟨by rw [u_at (by omega)]; exact h.1, u_eq, by rw [u_at (by omega)]; exact h.2.2.1, fun k hk i => by rw [u_ne (by omega)]; exact h.2.2.2 k hk i⟩
theorem cR_i2 {s : ac_m} {F B A : Nat} {w : Nat → Nat → Int32} (h : cR s F B A w) : cR (ac_u s 14 12 (nI (A + 1))) F B (A + 1) w := ⟨by rw [u_at (by omega)]; exact h.1, by rw [u_at (by omega)]; exact h.2.1, u_eq, fun k hk i => by rw [u_ne (by omega)]; exact h.2.2.2 k hk i⟩
theorem mR_7 {s : ac_m} {c c' F B A : Nat} {w : Nat → Nat → Int32} (h : mR s c F B A w) (hF : F ≤ 6) (hB : B ≤ 12) (hA : A ≤ 10) : mR (ac_u s 69 7 (nI c')) c' F B A w := by
  obtain ⟨h1, h2, h3, h4, h5, h6, h7⟩ := h
  refine ⟨u_eq, by rw [u_ne (by omega)]; exact h2, by rw [u_ne (by omega)]; exact h3, by rw [u_ne (by omega)]; exact h4, fun i hi => ?_, fun i hi => ?_, fun i hi => ?_⟩
  · rw [u_ne (by omega)]; exact h5 i hi
  · rw [u_ne (by omega)]; exact h6 i hi
  · rw [u_ne (by omega)]; exact h7 i hi
theorem hcT_f {Q : ac_m → Prop} {r1 : Int32} {s : ac_m} (e : ¬ s 69 5 = 0) (h : Q s) : hcT Q r1 s := by
  unfold hcT
  exact ⟨fun z => absurd z e, fun _ => h⟩
def hMo (k : Nat) : Nat := if k = 0 then 6 else if k = 1 then 12 else 10
theorem m_room {k c x : Nat} {Q : ac_m → Prop} {s1 : ac_m} (hk : k < 3) (e7 : s1 69 7 = nI x) (hx : x < 60) (e72 : s1 72 k = nI c) (hc : c ≤ 12) (h1 : c ≠ hMo k → hcT Q (nI k) s1) (h0 : c = hMo k → w_X12_wrong 3 (s1 69 4) (fun s50 => hcT Q (nI k) s50) s1) :
    (¬ nI k = (-1 : Int32) → (((s1 69 7) = (60 : Int32) → (w_X12_wrong (3 : Int32) (s1 69 4) (fun s50 => hcT Q (nI k) s50) s1)) ∧ (¬ (s1 69 7) = (60 : Int32) → (vp_in (nI k) 3 ∧ (w_X12_mostOf (nI k) (fun r38 s38 => (¬ (s1 72 (nI k).toNatClampNeg) = r38 → (hcT Q (nI k) s38)) ∧ ((s1 72 (nI k).toNatClampNeg) = r38 → (w_X12_wrong (3 : Int32) (s38 69 4) (fun s50 => hcT Q (nI k) s50) s38))) s1))))) ∧ (nI k = (-1 : Int32) → (w_X12_wrong (1 : Int32) (s1 69 4) (fun s16 => hcT Q (nI k) s16) s1)) := by
  have nk : ¬ nI k = -1 := fun z => by
    have p := nI_pos' (n := k) (by omega)
    rw [z] at p; exact absurd p (by decide)
  have p7 : ¬ s1 69 7 = 60 := fun z => by
    rw [e7] at z
    have := nI_inj (a := x) (b := 60) (by omega) (by omega) z
    omega
  refine ⟨fun _ => ⟨fun z => absurd z p7, fun _ => ⟨vp_in_nI hk (by omega), ?_⟩⟩, fun z => absurd z nk⟩
  rw [cl_nI (by omega), e72]
  have fin : ∀ m, m = hMo k → m ≤ 12 → (¬ nI c = nI m → (hcT Q (nI k) s1)) ∧ (nI c = nI m → (w_X12_wrong (3 : Int32) (s1 69 4) (fun s50 => hcT Q (nI k) s50) s1)) := fun m e hm => ⟨fun z => h1 (fun y => z (by rw [y, e])), fun z => h0 (by rw [nI_inj (by omega) (by omega) z]; exact e)⟩
  unfold w_X12_mostOf
  rcases k with _ | _ | _ | k
  · exact ⟨fun z => absurd rfl z, fun _ => fin 6 rfl (by omega)⟩
  · exact ⟨fun _ => ⟨fun z => absurd rfl z, fun _ => fin 12 rfl (by omega)⟩, fun z => absurd z (by decide)⟩
  · exact ⟨fun _ => ⟨fun _ => fin 10 rfl (by omega), fun z => absurd z (by decide)⟩, fun z => absurd z (by decide)⟩
  · omega
theorem hcT_folk {t : Nat → Nat} {n q F B A : Nat} {w : Nat → Nat → Int32} {Q : ac_m → Prop} {s : ac_m} (T : MT s t n) (hq : q ≤ n) (e4 : s 69 4 = nI q) (e5 : s 69 5 = 0) (hl : rl t n q = 4) (m : mR s (F + B + A) F B A w) (hv : F < 6) (h : ∀ s', mvM s s' (q + 4) → (fun Q s => rmN 0 (fun _ => 99) (75 + F) 0 (fun s => rmN 0 (fun _ => 9) (75 + F) 1 (fun s => w_X12_sign (nI 59) (fun s => rmE 0 Q s) s) s) s) Q (ac_u s' 69 7 (nI (F + B + A + 1)))) : hcT Q (nI 0) s := by
  unfold hcT
  refine ⟨fun _ => m_skipWord T hq e4 (fun s' m' => ⟨vp_in_nI (by omega) (by omega), ?_⟩), fun z => absurd e5 z⟩
  rw [hl] at m'
  have e7 : s' 69 7 + 1 = nI (F + B + A + 1) := by rw [m'.2.1 7 (by omega), m.1, nI_1]
  rw [e7, cl_nI (n := 0) (by omega)]
  have e72 : (ac_u s' 69 7 (nI (F + B + A + 1))) 72 0 = nI F := by rw [u_ne (by omega), m'.1 72 (by omega)]; exact m.2.1
  have v : vp_in (nI F) 6 = True := eq_true (vp_in_nI hv (by omega))
  rw [e72, cl_nI (n := F) (by omega)]
  simp only [v, true_and]
  have H := h s' m'
  exact ⟨fun _ => H, fun z => absurd z (by decide), fun z => absurd rfl z.1⟩
theorem hcT_beast {t : Nat → Nat} {n q F B A : Nat} {w : Nat → Nat → Int32} {Q : ac_m → Prop} {s : ac_m} (T : MT s t n) (hq : q ≤ n) (e4 : s 69 4 = nI q) (e5 : s 69 5 = 0) (hl : rl t n q = 5) (m : mR s (F + B + A) F B A w) (hv : B < 12) (h : ∀ s', mvM s s' (q + 5) → (fun Q s => rmN 0 (fun s => s 72 0 - 1) (89 + B) 0 (fun s => rmU (fun s => s 72 0) (89 + B) 0 1 (fun s => rmN 0 (fun _ => 5) (89 + B) 2 (fun s => rmN 1 (fun _ => 30) (89 + B) 3 (fun s => w_X12_sign (nI 59) (fun s => rmE 1 Q s) s) s) s) s) s) Q (ac_u s' 69 7 (nI (F + B + A + 1)))) : hcT Q (nI 1) s := by
  unfold hcT
  refine ⟨fun _ => m_skipWord T hq e4 (fun s' m' => ⟨vp_in_nI (by omega) (by omega), ?_⟩), fun z => absurd e5 z⟩
  rw [hl] at m'
  have e7 : s' 69 7 + 1 = nI (F + B + A + 1) := by rw [m'.2.1 7 (by omega), m.1, nI_1]
  rw [e7, cl_nI (n := 1) (by omega)]
  have e72 : (ac_u s' 69 7 (nI (F + B + A + 1))) 72 1 = nI B := by rw [u_ne (by omega), m'.1 72 (by omega)]; exact m.2.2.1
  have v : vp_in (nI B) 12 = True := eq_true (vp_in_nI hv (by omega))
  rw [e72, cl_nI (n := B) (by omega)]
  simp only [v, true_and]
  have H := h s' m'
  exact ⟨fun z => absurd z (by decide), fun _ => H, fun z => absurd rfl z.2⟩
theorem hcT_fair {t : Nat → Nat} {n q F B A : Nat} {w : Nat → Nat → Int32} {Q : ac_m → Prop} {s : ac_m} (T : MT s t n) (hq : q ≤ n) (e4 : s 69 4 = nI q) (e5 : s 69 5 = 0) (hl : rl t n q = 4) (m : mR s (F + B + A) F B A w) (hv : A < 10) (h : ∀ s', mvM s s' (q + 4) → (fun Q s => rmN 0 (fun _ => 5) (116 + A) 0 (fun s => rmU (fun _ => 6) (116 + A) 0 1 (fun s => rmN 1 (fun _ => 9) (116 + A) 2 (fun s => w_X12_sign (nI 59) (fun s => rmE 2 Q s) s) s) s) s) Q (ac_u s' 69 7 (nI (F + B + A + 1)))) : hcT Q (nI 2) s := by
  unfold hcT
  refine ⟨fun _ => m_skipWord T hq e4 (fun s' m' => ⟨vp_in_nI (by omega) (by omega), ?_⟩), fun z => absurd e5 z⟩
  rw [hl] at m'
  have e7 : s' 69 7 + 1 = nI (F + B + A + 1) := by rw [m'.2.1 7 (by omega), m.1, nI_1]
  rw [e7, cl_nI (n := 2) (by omega)]
  have e72 : (ac_u s' 69 7 (nI (F + B + A + 1))) 72 2 = nI A := by rw [u_ne (by omega), m'.1 72 (by omega)]; exact m.2.2.2.1
  have v : vp_in (nI A) 10 = True := eq_true (vp_in_nI hv (by omega))
  rw [e72, cl_nI (n := A) (by omega)]
  simp only [v, true_and]
  have H := h s' m'
  exact ⟨fun z => absurd z (by decide), fun z => absurd z (by decide), fun _ => H⟩
def rcC (Z Y : ac_m → Prop) (s : ac_m) : Prop := w_X3_readClause (fun r s1 => (¬ r = 0 → Y s1) ∧ (r = 0 → Z s1)) s
theorem HX_cfolk {t : Nat → Nat} {n q F B A : Nat} {w : Nat → Nat → Int32} (TT : okT t n) (hq : q ≤ n) (qq : skb t n q = q) (g : gR F B A w) (w1 : wdA t n q 1) :
    HX hDC hDM hE t n rcC w_X12_clause q (fun s => cR s F B A w) (fun s => mR s (F + B + A) F B A w) hlC hlM (fun q' x => q < q' ∧ hlG x) := by
  have hF := g.1
  have hB := g.2.1
  have hA := g.2.2.1
  have hl : rl t n q = 4 := wd_len TT wd1 w1
  have hle : q + 4 ≤ n := wd_le TT wd1 hq w1
  by_cases c : F < 6
  · have sk := skb_le' (t := t) hle
    obtain ⟨o, hC, hM, hG⟩ := HX_folk (t := t) (n := n) (q := skb t n (q + 4)) sk.2.1 (skb_0 sk.2.2) g c
    refine ⟨o, ?_, ?_, fun q' x e => ?_, hG.2⟩
    · intro Z Y s p T hp hs e3 a k1 k0
      refine c_disp T hp hs e3 (fun _ s1 m1 => ?_) (fun z => absurd w1 z) (fun z => absurd w1 z) (fun z => absurd w1 z)
      have a1 := cR_mv a m1
      refine c_folkR a1.1 (by omega) (fun _ => ?_) (fun z => absurd c (by omega))
      have FR : frc hDC s (ac_u s1 14 10 (nI (F + 1))) := frc_u (frc_mv m1) (by unfold hDC; omega) (by omega)
      refine hC _ _ _ (q + 4) (CT_frc hWW.1 T FR) hle rfl (by rw [u_ne (by omega)]; exact m1.2.2.1) (cR_i0 a1) (fun q' x e s' f g6 pp ax => ⟨bo_1, fun _ => k1 q' x e s' (FR.trans f) ?_ pp ax, fun z => absurd z (by decide)⟩) (fun kd pl e s' f g5 g6 => ⟨bo_0, fun z => absurd rfl z, fun _ => k0 kd pl e s' (FR.trans f) g5 g6⟩)
      rw [g6, u_ne (by omega)]; exact m1.2.1 6 (by omega) (by omega)
    · intro Q s p T hp hs e4 e5 m k1 k0
      rw [clause_eq]
      refine m_kind T hp hs e4 e5 (fun _ s1 m1 => ?_) (fun z => absurd w1 z) (fun z => absurd w1 z) (fun z => absurd w1 z)
      have m1' := mR_mv m hF hB hA m1
      have f5 : s1 69 5 = 0 := by rw [m1.2.1 5 (by omega)]; exact e5
      refine m_room (k := 0) (by omega) m1'.1 (by omega) m1'.2.1 (by omega) (fun _ => ?_) (fun z => absurd c (by rw [z]; decide))
      refine hcT_folk (MT_mv T m1) hq m1.2.2 f5 hl m1' c (fun s2 m2 => ?_)
      have FR : frm hDM hE s (ac_u s2 69 7 (nI (F + B + A + 1))) := frm_u69 (frm_mv (m1.trans m2)) rfl
      exact hM Q _ (q + 4) (MT_frm hWW.2.1 hWW.2.2 T FR) hle rfl (by rw [u_at (by omega)]; exact m2.2.2) (by rw [u_at (by omega), m2.2.1 5 (by omega)]; exact f5) (mR_7 (mR_mv m1' hF hB hA m2) hF hB hA) (fun q' x e s' f g5 pp mx => k1 q' x e s' (FR.trans f) g5 pp mx) (fun kd pl e s' f g5 g6 r4 => k0 kd pl e s' (FR.trans f) g5 g6 r4)
    · obtain ⟨b1, b2, b3, b4⟩ := hG.1 q' x e
      exact ⟨by omega, b2, b3, by omega, b4⟩
  · have ce : F = 6 := by omega
    refine ⟨.inl (3, q), ?_, ?_, fun _ _ e => (by cases e), fun a b e => (by cases e; omega)⟩
    · intro Z Y s p T hp hs e3 a k1 k0
      refine c_disp T hp hs e3 (fun _ s1 m1 => ?_) (fun z => absurd w1 z) (fun z => absurd w1 z) (fun z => absurd w1 z)
      have a1 := cR_mv a m1
      refine c_folkR a1.1 (by omega) (fun z => absurd z c) (fun _ => ?_)
      exact c_fail (kd := 3) m1.2.2.2 (fun s' f => ⟨bo_0, bo_0, fun z => absurd rfl z, fun _ => k0 3 q rfl s' ((frc_mv m1).trans (frc_fl f)) f.2.2.1 f.2.2.2⟩)
    · intro Q s p T hp hs e4 e5 m k1 k0
      rw [clause_eq]
      refine m_kind T hp hs e4 e5 (fun _ s1 m1 => ?_) (fun z => absurd w1 z) (fun z => absurd w1 z) (fun z => absurd w1 z)
      have m1' := mR_mv m hF hB hA m1
      have f5 : s1 69 5 = 0 := by rw [m1.2.1 5 (by omega)]; exact e5
      refine m_room (k := 0) (by omega) m1'.1 (by omega) m1'.2.1 (by omega) (fun z => absurd (show F = hMo 0 from ce) z) (fun _ => ?_)
      rw [m1.2.2]
      exact m_wrong0 (kd := 3) (n := n) f5 m1.2.2 hq (fun s2 f2 _ => hcT_f (by rw [f2.2.2.1]; exact nI_k (by omega)) (k0 3 q rfl s2 ((frm_mv m1).trans (frm_fl f2)) f2.2.2.1 f2.2.2.2.1 f2.2.2.2.2))
theorem HX_cbeast {t : Nat → Nat} {n q F B A : Nat} {w : Nat → Nat → Int32} (TT : okT t n) (hq : q ≤ n) (qq : skb t n q = q) (g : gR F B A w) (w1 : ¬ wdA t n q 1) (w2 : wdA t n q 2) :
    HX hDC hDM hE t n rcC w_X12_clause q (fun s => cR s F B A w) (fun s => mR s (F + B + A) F B A w) hlC hlM (fun q' x => q < q' ∧ hlG x) := by
  have hF := g.1
  have hB := g.2.1
  have hA := g.2.2.1
  have hl : rl t n q = 5 := wd_len TT wd2 w2
  have hle : q + 5 ≤ n := wd_le TT wd2 hq w2
  by_cases c : B < 12
  · have sk := skb_le' (t := t) hle
    obtain ⟨o, hC, hM, hG⟩ := HX_beast (t := t) (n := n) (q := skb t n (q + 5)) sk.2.1 (skb_0 sk.2.2) g c
    refine ⟨o, ?_, ?_, fun q' x e => ?_, hG.2⟩
    · intro Z Y s p T hp hs e3 a k1 k0
      refine c_disp T hp hs e3 (fun z => absurd z w1) (fun _ _ s1 m1 => ?_) (fun _ z => absurd w2 z) (fun _ z => absurd w2 z)
      have a1 := cR_mv a m1
      refine c_beastR a1.2.1 (by omega) (fun _ => ?_) (fun z => absurd c (by omega))
      have FR : frc hDC s (ac_u s1 14 11 (nI (B + 1))) := frc_u (frc_mv m1) (by unfold hDC; omega) (by omega)
      refine hC _ _ _ (q + 5) (CT_frc hWW.1 T FR) hle rfl (by rw [u_ne (by omega)]; exact m1.2.2.1) (cR_i1 a1) (fun q' x e s' f g6 pp ax => ⟨bo_1, fun _ => k1 q' x e s' (FR.trans f) ?_ pp ax, fun z => absurd z (by decide)⟩) (fun kd pl e s' f g5 g6 => ⟨bo_0, fun z => absurd rfl z, fun _ => k0 kd pl e s' (FR.trans f) g5 g6⟩)
      rw [g6, u_ne (by omega)]; exact m1.2.1 6 (by omega) (by omega)
    · intro Q s p T hp hs e4 e5 m k1 k0
      rw [clause_eq]
      refine m_kind T hp hs e4 e5 (fun z => absurd z w1) (fun _ _ s1 m1 => ?_) (fun _ z => absurd w2 z) (fun _ z => absurd w2 z)
      have m1' := mR_mv m hF hB hA m1
      have f5 : s1 69 5 = 0 := by rw [m1.2.1 5 (by omega)]; exact e5
      refine m_room (k := 1) (by omega) m1'.1 (by omega) m1'.2.2.1 (by omega) (fun _ => ?_) (fun z => absurd c (by rw [z]; decide))
      refine hcT_beast (MT_mv T m1) hq m1.2.2 f5 hl m1' c (fun s2 m2 => ?_)
      have FR : frm hDM hE s (ac_u s2 69 7 (nI (F + B + A + 1))) := frm_u69 (frm_mv (m1.trans m2)) rfl
      exact hM Q _ (q + 5) (MT_frm hWW.2.1 hWW.2.2 T FR) hle rfl (by rw [u_at (by omega)]; exact m2.2.2) (by rw [u_at (by omega), m2.2.1 5 (by omega)]; exact f5) (mR_7 (mR_mv m1' hF hB hA m2) hF hB hA) (fun q' x e s' f g5 pp mx => k1 q' x e s' (FR.trans f) g5 pp mx) (fun kd pl e s' f g5 g6 r4 => k0 kd pl e s' (FR.trans f) g5 g6 r4)
    · obtain ⟨b1, b2, b3, b4⟩ := hG.1 q' x e
      exact ⟨by omega, b2, b3, by omega, b4⟩
  · have ce : B = 12 := by omega
    refine ⟨.inl (3, q), ?_, ?_, fun _ _ e => (by cases e), fun a b e => (by cases e; omega)⟩
    · intro Z Y s p T hp hs e3 a k1 k0
      refine c_disp T hp hs e3 (fun z => absurd z w1) (fun _ _ s1 m1 => ?_) (fun _ z => absurd w2 z) (fun _ z => absurd w2 z)
      have a1 := cR_mv a m1
      refine c_beastR a1.2.1 (by omega) (fun z => absurd z c) (fun _ => ?_)
      exact c_fail (kd := 3) m1.2.2.2 (fun s' f => ⟨bo_0, bo_0, fun z => absurd rfl z, fun _ => k0 3 q rfl s' ((frc_mv m1).trans (frc_fl f)) f.2.2.1 f.2.2.2⟩)
    · intro Q s p T hp hs e4 e5 m k1 k0
      rw [clause_eq]
      refine m_kind T hp hs e4 e5 (fun z => absurd z w1) (fun _ _ s1 m1 => ?_) (fun _ z => absurd w2 z) (fun _ z => absurd w2 z)
      have m1' := mR_mv m hF hB hA m1
      have f5 : s1 69 5 = 0 := by rw [m1.2.1 5 (by omega)]; exact e5
      refine m_room (k := 1) (by omega) m1'.1 (by omega) m1'.2.2.1 (by omega) (fun z => absurd (show B = hMo 1 from ce) z) (fun _ => ?_)
      rw [m1.2.2]
      exact m_wrong0 (kd := 3) (n := n) f5 m1.2.2 hq (fun s2 f2 _ => hcT_f (by rw [f2.2.2.1]; exact nI_k (by omega)) (k0 3 q rfl s2 ((frm_mv m1).trans (frm_fl f2)) f2.2.2.1 f2.2.2.2.1 f2.2.2.2.2))
theorem HX_cfair {t : Nat → Nat} {n q F B A : Nat} {w : Nat → Nat → Int32} (TT : okT t n) (hq : q ≤ n) (qq : skb t n q = q) (g : gR F B A w) (w1 : ¬ wdA t n q 1) (w2 : ¬ wdA t n q 2) (w3 : wdA t n q 3) :
    HX hDC hDM hE t n rcC w_X12_clause q (fun s => cR s F B A w) (fun s => mR s (F + B + A) F B A w) hlC hlM (fun q' x => q < q' ∧ hlG x) := by
  have hF := g.1
  have hB := g.2.1
  have hA := g.2.2.1
  have hl : rl t n q = 4 := wd_len TT wd3 w3
  have hle : q + 4 ≤ n := wd_le TT wd3 hq w3
  by_cases c : A < 10
  · have sk := skb_le' (t := t) hle
    obtain ⟨o, hC, hM, hG⟩ := HX_fair (t := t) (n := n) (q := skb t n (q + 4)) sk.2.1 (skb_0 sk.2.2) g c
    refine ⟨o, ?_, ?_, fun q' x e => ?_, hG.2⟩
    · intro Z Y s p T hp hs e3 a k1 k0
      refine c_disp T hp hs e3 (fun z => absurd z w1) (fun _ z => absurd z w2) (fun _ _ _ s1 m1 => ?_) (fun _ _ z => absurd w3 z)
      have a1 := cR_mv a m1
      refine c_fairR a1.2.2.1 (by omega) (fun _ => ?_) (fun z => absurd c (by omega))
      have FR : frc hDC s (ac_u s1 14 12 (nI (A + 1))) := frc_u (frc_mv m1) (by unfold hDC; omega) (by omega)
      refine hC _ _ _ (q + 4) (CT_frc hWW.1 T FR) hle rfl (by rw [u_ne (by omega)]; exact m1.2.2.1) (cR_i2 a1) (fun q' x e s' f g6 pp ax => ⟨bo_1, fun _ => k1 q' x e s' (FR.trans f) ?_ pp ax, fun z => absurd z (by decide)⟩) (fun kd pl e s' f g5 g6 => ⟨bo_0, fun z => absurd rfl z, fun _ => k0 kd pl e s' (FR.trans f) g5 g6⟩)
      rw [g6, u_ne (by omega)]; exact m1.2.1 6 (by omega) (by omega)
    · intro Q s p T hp hs e4 e5 m k1 k0
      rw [clause_eq]
      refine m_kind T hp hs e4 e5 (fun z => absurd z w1) (fun _ z => absurd z w2) (fun _ _ _ s1 m1 => ?_) (fun _ _ z => absurd w3 z)
      have m1' := mR_mv m hF hB hA m1
      have f5 : s1 69 5 = 0 := by rw [m1.2.1 5 (by omega)]; exact e5
      refine m_room (k := 2) (by omega) m1'.1 (by omega) m1'.2.2.2.1 (by omega) (fun _ => ?_) (fun z => absurd c (by rw [z]; decide))
      refine hcT_fair (MT_mv T m1) hq m1.2.2 f5 hl m1' c (fun s2 m2 => ?_)
      have FR : frm hDM hE s (ac_u s2 69 7 (nI (F + B + A + 1))) := frm_u69 (frm_mv (m1.trans m2)) rfl
      exact hM Q _ (q + 4) (MT_frm hWW.2.1 hWW.2.2 T FR) hle rfl (by rw [u_at (by omega)]; exact m2.2.2) (by rw [u_at (by omega), m2.2.1 5 (by omega)]; exact f5) (mR_7 (mR_mv m1' hF hB hA m2) hF hB hA) (fun q' x e s' f g5 pp mx => k1 q' x e s' (FR.trans f) g5 pp mx) (fun kd pl e s' f g5 g6 r4 => k0 kd pl e s' (FR.trans f) g5 g6 r4)
    · obtain ⟨b1, b2, b3, b4⟩ := hG.1 q' x e
      exact ⟨by omega, b2, b3, by omega, b4⟩
  · have ce : A = 10 := by omega
    refine ⟨.inl (3, q), ?_, ?_, fun _ _ e => (by cases e), fun a b e => (by cases e; omega)⟩
    · intro Z Y s p T hp hs e3 a k1 k0
      refine c_disp T hp hs e3 (fun z => absurd z w1) (fun _ z => absurd z w2) (fun _ _ _ s1 m1 => ?_) (fun _ _ z => absurd w3 z)
      have a1 := cR_mv a m1
      refine c_fairR a1.2.2.1 (by omega) (fun z => absurd z c) (fun _ => ?_)
      exact c_fail (kd := 3) m1.2.2.2 (fun s' f => ⟨bo_0, bo_0, fun z => absurd rfl z, fun _ => k0 3 q rfl s' ((frc_mv m1).trans (frc_fl f)) f.2.2.1 f.2.2.2⟩)
    · intro Q s p T hp hs e4 e5 m k1 k0
      rw [clause_eq]
      refine m_kind T hp hs e4 e5 (fun z => absurd z w1) (fun _ z => absurd z w2) (fun _ _ _ s1 m1 => ?_) (fun _ _ z => absurd w3 z)
      have m1' := mR_mv m hF hB hA m1
      have f5 : s1 69 5 = 0 := by rw [m1.2.1 5 (by omega)]; exact e5
      refine m_room (k := 2) (by omega) m1'.1 (by omega) m1'.2.2.2.1 (by omega) (fun z => absurd (show A = hMo 2 from ce) z) (fun _ => ?_)
      rw [m1.2.2]
      exact m_wrong0 (kd := 3) (n := n) f5 m1.2.2 hq (fun s2 f2 _ => hcT_f (by rw [f2.2.2.1]; exact nI_k (by omega)) (k0 3 q rfl s2 ((frm_mv m1).trans (frm_fl f2)) f2.2.2.1 f2.2.2.2.1 f2.2.2.2.2))
theorem HX_clause {t : Nat → Nat} {n q : Nat} (x : hlT) (TT : okT t n) (hq : q ≤ n) (qq : skb t n q = q) (g : hlG x) :
    HX hDC hDM hE t n rcC w_X12_clause q (hlC x) (hlM x) hlC hlM (fun q' x => q < q' ∧ hlG x) := by
  obtain ⟨F, B, A, w⟩ := x
  by_cases w1 : wdA t n q 1
  · exact HX_cfolk TT hq qq g w1
  by_cases w2 : wdA t n q 2
  · exact HX_cbeast TT hq qq g w1 w2
  by_cases w3 : wdA t n q 3
  · exact HX_cfair TT hq qq g w1 w2 w3
  refine ⟨.inl (1, q), ?_, ?_, fun _ _ e => (by cases e), fun a b e => (by cases e; omega)⟩
  · intro Z Y s p T hp hs e3 a k1 k0
    exact c_disp T hp hs e3 (fun z => absurd z w1) (fun _ z => absurd z w2) (fun _ _ z => absurd z w3) (fun _ _ _ s' f => ⟨fun z => absurd rfl z, fun _ => k0 1 q rfl s' (frc_fl f) f.2.2.1 f.2.2.2⟩)
  · intro Q s p T hp hs e4 e5 m k1 k0
    rw [clause_eq]
    refine m_kind T hp hs e4 e5 (fun z => absurd z w1) (fun _ z => absurd z w2) (fun _ _ z => absurd z w3) (fun _ _ _ s1 m1 => ?_)
    have f5 : s1 69 5 = 0 := by rw [m1.2.1 5 (by omega)]; exact e5
    refine ⟨fun z => absurd rfl z, fun _ => ?_⟩
    rw [m1.2.2]
    exact m_wrong0 (kd := 1) (n := n) f5 m1.2.2 hq (fun s2 f2 _ => hcT_f (by rw [f2.2.2.1]; exact nI_k (by omega)) (k0 1 q rfl s2 ((frm_mv m1).trans (frm_fl f2)) f2.2.2.1 f2.2.2.2.1 f2.2.2.2.2))
