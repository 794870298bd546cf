/-! GATES -/
def bad1 (c : Int32) (k : Nat) (s : ac_m) : ac_m := ac_u (ac_u s 69 0 c) 71 k ((ac_u s 69 0 c) 71 k + (1 : Int32))
theorem c_within {p lo hi : Int32} {Q : ac_m → Prop} {X : String → ac_m → Prop} {s : ac_m} (h1 : lo ≤ p → p ≤ hi → Q s) (h0 : ¬ (lo ≤ p ∧ p ≤ hi) → X "java/lang/IllegalArgumentException" (ac_u s 0 16 ((s 0 16) + (1 : Int32)))) : w_X11_needWithin p lo hi Q X s := by
  unfold w_X11_needWithin w_X11_need
  refine ⟨fun a => ⟨fun z => absurd rfl z, fun _ => h0 (by grind)⟩, fun a => ⟨fun b => ⟨fun z => absurd rfl z, fun _ => h0 (by grind)⟩, fun b => ⟨fun _ => h1 (by grind) (by grind), fun z => absurd z (by decide)⟩⟩⟩
theorem c_number {p n : Int32} {Q : ac_m → Prop} {X : String → ac_m → Prop} {s : ac_m} (h1 : 0 ≤ p → p < n → Q s) (h0 : ¬ (0 ≤ p ∧ p < n) → X "java/util/NoSuchElementException" (ac_u s 0 15 ((s 0 15) + (1 : Int32)))) : w_X11_needNumber p n Q X s := by
  unfold w_X11_needNumber
  refine ⟨fun a => h0 (by grind), fun a => ⟨fun b => h1 (by grind) b, fun b => h0 (by grind)⟩⟩
theorem m_in {p lo hi : Int32} {Q : Int32 → ac_m → Prop} {s : ac_m} (h1 : lo ≤ p → p ≤ hi → Q 1 s) (h0 : ¬ (lo ≤ p ∧ p ≤ hi) → Q 0 s) : w_X12_in p lo hi Q s := by
  unfold w_X12_in
  refine ⟨fun a => h0 (by grind), fun a => ⟨fun b => h0 (by grind), fun b => h1 (by grind) (by grind)⟩⟩
theorem m_inA {p lo hi : Int32} {A B : ac_m → Prop} {s : ac_m} (h1 : lo ≤ p → p ≤ hi → A s) (h0 : ¬ (lo ≤ p ∧ p ≤ hi) → B s) : w_X12_in p lo hi (fun r s => (¬ r = 0 → A s) ∧ (r = 0 → B s)) s :=
  m_in (fun a b => ⟨fun _ => h1 a b, fun z => absurd z (by decide)⟩) (fun a => ⟨fun z => absurd rfl z, fun _ => h0 a⟩)
theorem m_inB {p lo hi : Int32} {A B : ac_m → Prop} {s : ac_m} (h1 : lo ≤ p → p ≤ hi → A s) (h0 : ¬ (lo ≤ p ∧ p ≤ hi) → B s) : w_X12_in p lo hi (fun r s => (r = 0 → B s) ∧ (¬ r = 0 → A s)) s :=
  m_in (fun a b => ⟨fun z => absurd z (by decide), fun _ => h1 a b⟩) (fun a => ⟨fun _ => h0 a, fun z => absurd rfl z⟩)
theorem bo_1 : ac_bo 1 := by first | rfl | (unfold ac_bo narrow; rfl) | (unfold ac_bo; decide) | (unfold ac_bo narrow; decide)
theorem bo_0 : ac_bo 0 := by first | rfl | (unfold ac_bo narrow; rfl) | (unfold ac_bo; decide) | (unfold ac_bo narrow; decide)
theorem m_folk {p : Int32} {Q : Int32 → ac_m → Prop} {s : ac_m} (hn : 0 ≤ s 73 0) (h1 : 0 ≤ p → p < s 73 0 → Q 1 s) (h0 : ¬ (0 ≤ p ∧ p < s 73 0) → Q 0 s) : w_X12_isFolk p Q s := by
  unfold w_X12_isFolk
  refine m_in (fun a b => ⟨bo_1, h1 a ?_⟩) (fun a => ⟨bo_0, h0 ?_⟩)
  · change p ≤ s 73 0 - 1 at b
    grind
  · change ¬ (0 ≤ p ∧ p ≤ s 73 0 - 1) at a
    grind
theorem m_beast {p : Int32} {Q : Int32 → ac_m → Prop} {s : ac_m} (hn : 0 ≤ s 73 1) (h1 : 0 ≤ p → p < s 73 1 → Q 1 s) (h0 : ¬ (0 ≤ p ∧ p < s 73 1) → Q 0 s) : w_X12_isBeast p Q s := by
  unfold w_X12_isBeast
  refine m_in (fun a b => ⟨bo_1, h1 a ?_⟩) (fun a => ⟨bo_0, h0 ?_⟩)
  · change p ≤ s 73 1 - 1 at b
    grind
  · change ¬ (0 ≤ p ∧ p ≤ s 73 1 - 1) at a
    grind
theorem m_if1A {A B : Prop} (a : A) : (¬ (1 : Int32) = 0 → A) ∧ ((1 : Int32) = 0 → B) := ⟨fun _ => a, fun z => absurd z (by decide)⟩
theorem m_if1B {A B : Prop} (a : A) : ((1 : Int32) = 0 → B) ∧ (¬ (1 : Int32) = 0 → A) := ⟨fun z => absurd z (by decide), fun _ => a⟩
theorem m_if0A {A B : Prop} (b : B) : (¬ (0 : Int32) = 0 → A) ∧ ((0 : Int32) = 0 → B) := ⟨fun z => absurd rfl z, fun _ => b⟩
theorem m_if0B {A B : Prop} (b : B) : ((0 : Int32) = 0 → B) ∧ (¬ (0 : Int32) = 0 → A) := ⟨fun _ => b, fun z => absurd rfl z⟩
theorem m_bad0 {c k : Int32} {Q : Int32 → ac_m → Prop} {s : ac_m} (hs : s 69 0 = 0) (h : Q 0 s) : w_X12_bad 0 c k Q s := by
  unfold w_X12_bad
  exact ⟨fun _ => ⟨fun _ => h, fun z => absurd hs z⟩, fun z => absurd rfl z⟩
theorem m_bad1 {c k : Int32} {Q : Int32 → ac_m → Prop} {s : ac_m} (hs : s 69 0 = 0) (hc : ¬ c = 0) (hk : vp_in k 2) (h : Q 1 (bad1 c k.toNatClampNeg s)) : w_X12_bad 1 c k Q s := by
  unfold w_X12_bad
  refine ⟨fun z => absurd z (by decide), fun _ => ⟨fun z => absurd hs z, fun _ => ⟨hk, hk, fun z => absurd ?_ hc, fun _ => h⟩⟩⟩
  rw [u_ne (by decide), u_eq] at z
  exact z
theorem bad_69 {c : Int32} {k : Nat} {s : ac_m} : bad1 c k s 69 0 = c := by unfold bad1; rw [u_ne (by decide), u_eq]
theorem in2_0 : vp_in (0 : Int32) 2 := vp_in_nI (n := 0) (by omega) (by omega)
theorem in2_1 : vp_in (1 : Int32) 2 := vp_in_nI (n := 1) (by omega) (by omega)
/-- a refused call: both count it -/
theorem Inv_bad1 {s : ac_m} {c : Int32} (i : Inv s) : Inv (bad1 c 1 (ac_u (ac_u s 0 16 ((s 0 16) + (1 : Int32))) 69 0 0)) := by
  unfold bad1
  refine Inv_kq (((((kq.refl s).u rfl (by decide)).u rfl (fun _ => rfl)).u rfl (fun _ => rfl)).u rfl (by decide)) ?_ i
  have x := i.2.2.2.2.2.2.2.2
  unfold iX at x ⊢
  simp (disch := omega) only [u_ne, u_at, u_eq]
  exact ⟨x.1, x.2.1, x.2.2.1, by rw [x.2.2.2]⟩
theorem Inv_bad0 {s : ac_m} {c : Int32} (i : Inv s) : Inv (bad1 c 0 (ac_u (ac_u s 0 15 ((s 0 15) + (1 : Int32))) 69 0 0)) := by
  unfold bad1
  refine Inv_kq (((((kq.refl s).u rfl (by decide)).u rfl (fun _ => rfl)).u rfl (fun _ => rfl)).u rfl (by decide)) ?_ i
  have x := i.2.2.2.2.2.2.2.2
  unfold iX at x ⊢
  simp (disch := omega) only [u_ne, u_at, u_eq]
  exact ⟨x.1, x.2.1, by rw [x.2.2.1], x.2.2.2⟩
/-! SUMS -/
def sm (f : Nat → Int32) : Nat → Int32
  | 0 => 0
  | k + 1 => sm f k + f k
theorem sm_cong {f g : Nat → Int32} : ∀ {n : Nat}, (∀ k, k < n → f k = g k) → sm f n = sm g n
  | 0, _ => rfl
  | n + 1, h => by unfold sm; rw [h n (by omega), sm_cong (fun k hk => h k (by omega))]
theorem sm_more {f : Nat → Int32} {m : Nat} : ∀ {n : Nat}, m ≤ n → (∀ k, m ≤ k → k < n → f k = 0) → sm f n = sm f m
  | 0, h, _ => by rw [show m = 0 by omega]
  | n + 1, h, hf => by
    by_cases e : m = n + 1
    · rw [e]
    · have := sm_more (n := n) (by omega) (fun k a b => hf k a (by omega))
      rw [← this]
      unfold sm
      rw [hf n (by omega) (by omega)]
      cases n <;> grind [sm]
theorem sm_add {f g h : Nat → Int32} : ∀ {n : Nat}, (∀ k, k < n → f k + g k = h k) → sm f n + sm g n = sm h n
  | 0, _ => rfl
  | n + 1, e => by
    have := sm_add (n := n) (fun k hk => e k (by omega))
    have := e n (by omega)
    unfold sm
    grind
