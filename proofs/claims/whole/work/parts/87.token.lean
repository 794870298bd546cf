/-! TEXTS: what both read. A text is its bytes t and its length n; 256 stands behind its end. -/
def ch (t : Nat → Nat) (n j : Nat) : Nat := if j < n then t j else 256
def kC (c : Nat) : Int32 := if c = 256 then -1 else by8 (nI c)
def kM (c : Nat) : Int32 := if c = 256 then -1 else nI c
def dg (c : Nat) : Prop := 48 ≤ c ∧ c ≤ 57
def sml (c : Nat) : Prop := 97 ≤ c ∧ c ≤ 122
theorem kC_eq : ∀ c, c < 257 → ∀ x, x < 128 → (kC c = nI x ↔ c = x) := by decide +kernel
theorem kC_dg : ∀ c, c < 257 → ((¬ kC c < 48 ∧ ¬ 57 < kC c) ↔ (48 ≤ c ∧ c ≤ 57)) := by decide +kernel
theorem kC_sm : ∀ c, c < 257 → ((¬ kC c < 97 ∧ ¬ 122 < kC c) ↔ (97 ≤ c ∧ c ≤ 122)) := by decide +kernel
theorem kM_dg : ∀ c, c < 257 → ((¬ kM c < 48 ∧ ¬ 57 < kM c) ↔ (48 ≤ c ∧ c ≤ 57)) := by decide +kernel
theorem kM_sm : ∀ c, c < 257 → ((¬ kM c < 97 ∧ ¬ 122 < kM c) ↔ (97 ≤ c ∧ c ≤ 122)) := by decide +kernel
theorem kM_eq : ∀ c, c < 257 → ∀ x, x < 128 → (kM c = nI x ↔ c = x) := by decide +kernel
def okT (t : Nat → Nat) (n : Nat) : Prop := n ≤ 600 ∧ ∀ j, j < n → t j ≤ 255
theorem ch_lt {t : Nat → Nat} {n : Nat} (h : okT t n) (j : Nat) : ch t n j < 257 := by
  unfold ch
  split
  · have := h.2 j (by assumption); omega
  · omega
theorem ch_end {t : Nat → Nat} {n j : Nat} (h : n ≤ j) : ch t n j = 256 := by unfold ch; rw [if_neg (by omega)]
/-- blanks, numbers -/
def skF (t : Nat → Nat) (n : Nat) : Nat → Nat → Nat
  | 0, p => p
  | f + 1, p => if ch t n p = 32 then skF t n f (p + 1) else p
def skb (t : Nat → Nat) (n p : Nat) : Nat := skF t n (n - p) p
theorem skb_s {t : Nat → Nat} {n p : Nat} (h : ch t n p = 32) : skb t n p = skb t n (p + 1) := by
  unfold skb
  have hp : p < n := by
    rcases Nat.lt_or_ge p n with q | q
    · exact q
    · rw [ch_end q] at h; omega
  rw [show n - p = (n - (p + 1)) + 1 by omega, skF, if_pos h]
theorem skb_0 {t : Nat → Nat} {n p : Nat} (h : ch t n p ≠ 32) : skb t n p = p := by
  unfold skb
  cases n - p with
  | zero => rfl
  | succ f => rw [skF, if_neg h]
theorem skb_le {t : Nat → Nat} {n : Nat} : ∀ (f p : Nat), n - p = f → p ≤ n → p ≤ skb t n p ∧ skb t n p ≤ n ∧ ch t n (skb t n p) ≠ 32
  | 0, p, h, hp => by
    have e : ch t n p ≠ 32 := by rw [ch_end (by omega)]; decide
    rw [skb_0 e]; exact ⟨Nat.le_refl _, hp, e⟩
  | f + 1, p, h, hp => by
    by_cases c : ch t n p = 32
    · rw [skb_s c]
      have := skb_le (t := t) (n := n) f (p + 1) (by omega) (by omega)
      exact ⟨by omega, this.2⟩
    · rw [skb_0 c]; exact ⟨Nat.le_refl _, hp, c⟩
theorem skb_le' {t : Nat → Nat} {n p : Nat} (hp : p ≤ n) : p ≤ skb t n p ∧ skb t n p ≤ n ∧ ch t n (skb t n p) ≠ 32 := skb_le (n - p) p rfl hp
def nE (t : Nat → Nat) (n : Nat) : Nat → Nat → Nat
  | 0, p => p
  | f + 1, p => if 48 ≤ ch t n p ∧ ch t n p ≤ 57 then nE t n f (p + 1) else p
def nV (t : Nat → Nat) (n : Nat) : Nat → Nat → Nat → Nat
  | 0, _, v => v
  | f + 1, p, v => if 48 ≤ ch t n p ∧ ch t n p ≤ 57 then nV t n f (p + 1) (min (10 * v + (ch t n p - 48)) 100000) else v
/-- where the number that stands at p ends, and what it is -/
def nmE (t : Nat → Nat) (n p : Nat) : Nat := nE t n (n - p) p
def nmV (t : Nat → Nat) (n p : Nat) : Nat := nV t n (n - p) p 0
theorem dg_lt {t : Nat → Nat} {n p : Nat} (h : dg (ch t n p)) : p < n := by
  rcases Nat.lt_or_ge p n with q | q
  · exact q
  · unfold dg at h; rw [ch_end q] at h; omega
theorem nE_le {t : Nat → Nat} {n : Nat} : ∀ (f p : Nat), n - p = f → p ≤ n → p ≤ nE t n f p ∧ nE t n f p ≤ n
  | 0, p, _, hp => ⟨Nat.le_refl _, hp⟩
  | f + 1, p, h, hp => by
    rw [nE]
    split
    · have := nE_le (t := t) (n := n) f (p + 1) (by omega) (by omega); omega
    · exact ⟨Nat.le_refl _, hp⟩
theorem nmE_gt {t : Nat → Nat} {n p : Nat} (h : dg (ch t n p)) : p < nmE t n p ∧ nmE t n p ≤ n := by
  have hp := dg_lt h
  unfold nmE
  rw [show n - p = (n - (p + 1)) + 1 by omega, nE, if_pos (show 48 ≤ ch t n p ∧ ch t n p ≤ 57 from h)]
  have := nE_le (t := t) (n - (p + 1)) (p + 1) rfl (by omega)
  omega
theorem nV_bd {t : Nat → Nat} {n : Nat} : ∀ (f p v : Nat), v ≤ 100000 → nV t n f p v ≤ 100000
  | 0, _, _, h => h
  | f + 1, p, v, h => by
    rw [nV]
    split
    · exact nV_bd f (p + 1) _ (Nat.min_le_right _ _)
    · exact h
theorem nmV_bd {t : Nat → Nat} {n p : Nat} : nmV t n p ≤ 100000 := nV_bd _ _ _ (by omega)
theorem kC_dig : ∀ c, c < 257 → 48 ≤ c ∧ c ≤ 57 → kC c = nI c := by decide +kernel
