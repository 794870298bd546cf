/-! A DAY, AS A ROW OF THE REFERENCE -/
abbrev ro : Type := Nat → Int32
def cn (x : ro) (f : Int32) : Nat → Int32 := sm (fun k => if decide (0 < x k ∧ x (26 + k) = f) = true then 1 else 0)
def apX (s : ac_m) (x : ro) (b : Nat) : Int32 := if x b ≤ 0 then 0 else lval s (f8 (x b) (s (102 + b) 2) (x (13 + b)) (x (39 + (x (26 + b)).toNatClampNeg)) (cn x (x (26 + b)) 13 - 1) (if b = 12 then 0 else x (45 + (6 * (s (102 + b) 0).toNatClampNeg + (s (102 + b) 1).toNatClampNeg))) (x 82) (nI b))
def gt (e x : ro) (b : Nat) : Int32 := if x (39 + (x (26 + b)).toNatClampNeg) ≤ e b then x (39 + (x (26 + b)).toNatClampNeg) else e b
def gz1 (e x : ro) (b : Nat) : ro := upd (upd x (39 + (x (26 + b)).toNatClampNeg) (x (39 + (x (26 + b)).toNatClampNeg) - gt e x b)) b (x b - (e b - gt e x b))
def gz (e x : ro) (b : Nat) : ro := if x b ≤ 0 then x else if 0 < x b - (e b - gt e x b) then gz1 e x b else upd (upd (upd (upd (gz1 e x b) b 0) (13 + b) 0) (26 + b) (-1)) 81 (x 81 + 1)
def gzs (e x : ro) : Nat → ro
  | 0 => x
  | k + 1 => gz e (gzs e x k) k
def agk (x : ro) : Nat → ro
  | 0 => x
  | k + 1 => upd (agk x k) (13 + k) (agk x k (13 + k) + (if agk x k k ≤ 0 then 0 else 1))
def lss (p q : Int32) : Int32 := if q ≤ p then q else p
def gwk (g x : ro) : Nat → ro
  | 0 => x
  | k + 1 => upd (gwk g x k) (39 + k) (lss 99 (gwk g x k (39 + k) + g k))
def dyF (s : ac_m) (F : Nat) (x : ro) : ro := upd (gwk (fun f => s (82 + f) 1) (agk (gzs (apX s x) x 13) 13) F) 82 (gwk (fun f => s (82 + f) 1) (agk (gzs (apX s x) x 13) 13) F 82 + 1)
theorem upd_eq {f : ro} {k : Nat} {v : Int32} : upd f k v k = v := by unfold upd; rw [if_pos rfl]
theorem upd_ne {f : ro} {k j : Nat} {v : Int32} (h : j ≠ k) : upd f k v j = f j := by unfold upd; rw [if_neg h]
theorem u_row' {s : ac_m} {r k : Nat} {v : Int32} : (ac_u s r k v) r = upd (s r) k v := by unfold ac_u; rw [if_pos rfl]
theorem agk_pt {x : ro} : ∀ {n : Nat} (j : Nat), n ≤ 13 → agk x n j = if 13 ≤ j ∧ j < 13 + n ∧ ¬ x (j - 13) ≤ 0 then x j + 1 else x j
  | 0, j, _ => by rw [if_neg (by omega)]; rfl
  | n + 1, j, hn => by
    unfold agk
    by_cases e : j = 13 + n
    · subst e
      have h1 : agk x n (13 + n) = x (13 + n) := by rw [agk_pt (n := n) (13 + n) (by omega), if_neg (by omega)]
      have h2 : agk x n n = x n := by rw [agk_pt (n := n) n (by omega), if_neg (by omega)]
      rw [upd_eq, h1, h2, show 13 + n - 13 = n by omega]
      by_cases c : x n ≤ 0
      · rw [if_pos c, if_neg (fun z => z.2.2 c), Int32.add_zero]
      · rw [if_neg c, if_pos ⟨by omega, by omega, c⟩]
    · rw [upd_ne e, agk_pt (n := n) j (by omega)]
      by_cases c : 13 ≤ j ∧ j < 13 + n ∧ ¬ x (j - 13) ≤ 0
      · rw [if_pos c, if_pos ⟨c.1, by omega, c.2.2⟩]
      · rw [if_neg c, if_neg (fun z => c ⟨z.1, by omega, z.2.2⟩)]
theorem gwk_pt {g x : ro} : ∀ {n : Nat} (j : Nat), gwk g x n j = if 39 ≤ j ∧ j < 39 + n then lss 99 (x j + g (j - 39)) else x j
  | 0, j => by rw [if_neg (by omega)]; rfl
  | n + 1, j => by
    unfold gwk
    by_cases e : j = 39 + n
    · subst e
      rw [upd_eq, gwk_pt (n := n) (39 + n), if_neg (by omega), if_pos (by omega), show 39 + n - 39 = n by omega]
    · rw [upd_ne e, gwk_pt (n := n) j]
      by_cases c : 39 ≤ j ∧ j < 39 + n
      · rw [if_pos c, if_pos ⟨c.1, by omega⟩]
      · rw [if_neg c, if_neg (fun z => c ⟨z.1, by omega⟩)]
/-- a row that can be, whatever its day -/
def vN (F : Int32) (x : ro) : Prop :=
  (∀ b, b < 13 → (x b = 0 ∧ x (13 + b) = 0 ∧ x (26 + b) = -1) ∨ (1 ≤ x b ∧ x b ≤ 30 ∧ 0 ≤ x (26 + b) ∧ x (26 + b) < F)) ∧ (∀ f, f < 6 → 0 ≤ x (39 + f) ∧ x (39 + f) ≤ 99 ∧ (F ≤ nI f → x (39 + f) = 0))
  ∧ (∀ i j, i < 6 → j < 6 → x (45 + (6 * i + j)) = x (45 + (6 * j + i)) ∧ 0 ≤ x (45 + (6 * i + j)) ∧ x (45 + (6 * i + j)) ≤ 9 ∧ (i = j → x (45 + (6 * i + j)) = 0) ∧ (F ≤ nI i → x (45 + (6 * i + j)) = 0))
theorem vN_of {F : Int32} {x : ro} (h : vM F x) : vN F x := ⟨h.1, h.2.1, h.2.2.1⟩
theorem vM_of {F : Int32} {x : ro} (h : vN F x) (h0 : 0 ≤ x 82) (h1 : x 82 ≤ 400) : vM F x := ⟨h.1, h.2.1, h.2.2, h0, h1⟩
theorem vN_on {F : Nat} (hf : F ≤ 6) {x : ro} (v : vN (nI F) x) {b : Nat} (hb : b < 13) (h : ¬ x b ≤ 0) : 1 ≤ x b ∧ x b ≤ 30 ∧ ∃ f, f < F ∧ x (26 + b) = nI f := by
  rcases v.1 b hb with z | z
  · exact absurd (by rw [z.1]; decide) h
  · obtain ⟨f, hf', e⟩ := of_in (by omega) z.2.2.1 z.2.2.2
    exact ⟨z.1, z.2.1, f, hf', e⟩
/-- what a beast that is there does, place by place -/
theorem gz_pt {e x : ro} {b f : Nat} (hb : b < 13) (hf : f < 6) (h : ¬ x b ≤ 0) (ef : x (26 + b) = nI f) (j : Nat) :
    gz e x b j = if j = 39 + f then x (39 + f) - gt e x b else if j = b then (if 0 < x b - (e b - gt e x b) then x b - (e b - gt e x b) else 0) else if 0 < x b - (e b - gt e x b) then x j else if j = 13 + b then 0 else if j = 26 + b then -1 else if j = 81 then x 81 + 1 else x j := by
  unfold gz
  rw [if_neg h]
  have cf : (x (26 + b)).toNatClampNeg = f := by rw [ef]; exact cl_nI (by omega)
  have g1 : ∀ j, gz1 e x b j = if j = b then x b - (e b - gt e x b) else if j = 39 + f then x (39 + f) - gt e x b else x j := by
    intro j
    unfold gz1 upd
    rw [cf]
  clear cf ef h
  generalize x b - (e b - gt e x b) = w at *
  generalize x (39 + f) - gt e x b = y at *
  by_cases c : 0 < w
  · rw [if_pos c, g1]
    simp only [if_pos c]
    by_cases e1 : j = 39 + f
    · rw [if_pos e1, if_neg (by omega), if_pos e1]
    · rw [if_neg e1, if_neg e1]
  · rw [if_neg c]
    simp only [if_neg c]
    unfold upd
    rw [g1]
    by_cases e1 : j = 39 + f
    · simp only [if_pos e1]
      rw [if_neg (by omega), if_neg (by omega), if_neg (by omega), if_neg (by omega), if_neg (by omega)]
    · simp only [if_neg e1]
      by_cases e2 : j = b
      · simp only [if_pos e2]
        rw [if_neg (by omega), if_neg (by omega), if_neg (by omega)]
      · simp only [if_neg e2]
        by_cases e3 : j = 13 + b
        · simp only [if_pos e3]
          rw [if_neg (by omega), if_neg (by omega)]
        · simp only [if_neg e3]
          by_cases e4 : j = 26 + b
          · simp only [if_pos e4]
            rw [if_neg (by omega)]
          · simp only [if_neg e4]
theorem gt_bd {e x : ro} {b : Nat} (he : 0 ≤ e b) (hx : 0 ≤ x (39 + (x (26 + b)).toNatClampNeg)) : 0 ≤ gt e x b ∧ gt e x b ≤ e b ∧ gt e x b ≤ x (39 + (x (26 + b)).toNatClampNeg) := by
  unfold gt
  by_cases c : x (39 + (x (26 + b)).toNatClampNeg) ≤ e b
  · rw [if_pos c]; exact ⟨hx, c, Int32.le_refl _⟩
  · rw [if_neg c]; exact ⟨he, Int32.le_refl _, by grind⟩
theorem vN_gz {F : Nat} (hF : F ≤ 6) {e x : ro} {b : Nat} (hb : b < 13) (v : vN (nI F) x) (e0 : 0 ≤ e b) (e1 : e b ≤ 20) : vN (nI F) (gz e x b) := by
  by_cases h : x b ≤ 0
  · unfold gz; rw [if_pos h]; exact v
  obtain ⟨w0, w1, f, hf, ef⟩ := vN_on hF v hb h
  have cf : (x (26 + b)).toNatClampNeg = f := by rw [ef]; exact cl_nI (by omega)
  have gr := v.2.1 f (by omega)
  have g := gt_bd (e := e) (x := x) (b := b) e0 (by rw [cf]; exact gr.1)
  rw [cf] at g
  have pt := gz_pt (e := e) hb (show f < 6 by omega) h ef
  refine ⟨fun c hc => ?_, fun k hk => ?_, fun i j hi hj => ?_⟩
  · rw [pt c, pt (13 + c), pt (26 + c), if_neg (show ¬ c = 39 + f by omega), if_neg (show ¬ 13 + c = 39 + f by omega), if_neg (show ¬ 26 + c = 39 + f by omega), if_neg (show ¬ 26 + c = b by omega)]
    have vc := v.1 c hc
    by_cases q : 0 < x b - (e b - gt e x b)
    · simp only [if_pos q]
      by_cases eb : c = b
      · subst eb
        rw [if_pos rfl]
        right
        have : x (26 + c) < nI F := by rw [ef]; exact nI_lt hf (by omega)
        have : 0 ≤ x (26 + c) := by rw [ef]; exact nI_pos' (by omega)
        refine ⟨by grind, by grind, by assumption, by assumption⟩
      · rw [if_neg eb]
        by_cases e13 : 13 + c = b
        · omega
        · rw [if_neg e13]; exact vc
    · simp only [if_neg q]
      by_cases eb : c = b
      · subst eb
        rw [if_pos rfl, if_neg (show ¬ 13 + c = c by omega), if_pos rfl, if_neg (show ¬ 26 + c = 13 + c by omega), if_pos rfl]
        exact .inl ⟨rfl, rfl, rfl⟩
      · rw [if_neg eb, if_neg (show ¬ 13 + c = b by omega), if_neg (show ¬ c = 13 + b by omega), if_neg (show ¬ c = 26 + b by omega), if_neg (show ¬ c = 81 by omega), if_neg (show ¬ 13 + c = 13 + b by omega), if_neg (show ¬ 13 + c = 26 + b by omega), if_neg (show ¬ 13 + c = 81 by omega), if_neg (show ¬ 26 + c = 13 + b by omega), if_neg (show ¬ 26 + c = 26 + b by omega), if_neg (show ¬ 26 + c = 81 by omega)]
        exact vc
  · have gk := v.2.1 k hk
    rw [pt (39 + k), if_neg (show ¬ 39 + k = b by omega), if_neg (show ¬ 39 + k = 13 + b by omega), if_neg (show ¬ 39 + k = 26 + b by omega), if_neg (show ¬ 39 + k = 81 by omega)]
    by_cases ek : 39 + k = 39 + f
    · rw [if_pos ek]
      refine ⟨by grind, by grind, fun z => ?_⟩
      have : k = f := by omega
      subst this
      exact absurd z (nI_ge hf (by omega))
    · rw [if_neg ek]
      have : (if 0 < x b - (e b - gt e x b) then x (39 + k) else x (39 + k)) = x (39 + k) := by split <;> rfl
      rw [this]
      exact gk
  · have un : ∀ m, m < 36 → gz e x b (45 + m) = x (45 + m) := by
      intro m hm
      rw [pt (45 + m), if_neg (show ¬ 45 + m = 39 + f by omega), if_neg (show ¬ 45 + m = b by omega), if_neg (show ¬ 45 + m = 13 + b by omega), if_neg (show ¬ 45 + m = 26 + b by omega), if_neg (show ¬ 45 + m = 81 by omega)]
      split <;> rfl
    rw [un _ (by omega), un _ (by omega)]
    exact v.2.2 i j hi hj
theorem vN_gzs {F : Nat} (hF : F ≤ 6) {e x : ro} (v : vN (nI F) x) (he : ∀ b, b < 13 → 0 ≤ e b ∧ e b ≤ 20) : ∀ {k : Nat}, k ≤ 13 → vN (nI F) (gzs e x k)
  | 0, _ => v
  | k + 1, h => vN_gz hF (by omega) (vN_gzs hF v he (by omega)) (he k (by omega)).1 (he k (by omega)).2
theorem vN_agk {F : Nat} {x : ro} (v : vN (nI F) x) {k : Nat} (hk : k ≤ 13) : vN (nI F) (agk x k) := by
  refine ⟨fun c hc => ?_, fun c hc => ?_, fun i j hi hj => ?_⟩
  · rw [agk_pt c hk, agk_pt (13 + c) hk, agk_pt (26 + c) hk, if_neg (by omega), if_neg (show ¬ (13 ≤ 26 + c ∧ 26 + c < 13 + k ∧ _) by omega), show 13 + c - 13 = c by omega]
    refine (v.1 c hc).imp (fun z => ⟨z.1, ?_, z.2.2⟩) id
    rw [if_neg (fun y => y.2.2 (by rw [z.1]; decide))]
    exact z.2.1
  · rw [agk_pt (39 + c) hk, if_neg (by omega)]; exact v.2.1 c hc
  · rw [agk_pt _ hk, agk_pt _ hk, if_neg (by omega), if_neg (by omega)]; exact v.2.2 i j hi hj
theorem vN_gwk {F : Nat} (hF : F ≤ 6) {g x : ro} (v : vN (nI F) x) (hg : ∀ f, f < F → 0 ≤ g f ∧ g f ≤ 9) : vN (nI F) (gwk g x F) := by
  refine ⟨fun c hc => ?_, fun c hc => ?_, fun i j hi hj => ?_⟩
  · rw [gwk_pt c, gwk_pt (13 + c), gwk_pt (26 + c), if_neg (by omega), if_neg (by omega), if_neg (by omega)]
    exact v.1 c hc
  · rw [gwk_pt (39 + c), show 39 + c - 39 = c by omega]
    have q := v.2.1 c hc
    by_cases h : c < F
    · rw [if_pos (by omega)]
      have g' := hg c h
      unfold lss
      refine ⟨by grind, by grind, fun z => absurd z (nI_ge h (by omega))⟩
    · rw [if_neg (by omega)]; exact q
  · rw [gwk_pt, gwk_pt, if_neg (by omega), if_neg (by omega)]; exact v.2.2 i j hi hj
theorem vN_82 {F : Int32} {x : ro} {c : Int32} (v : vN F x) : vN F (upd x 82 c) := by
  refine ⟨fun b hb => ?_, fun f hf => ?_, fun i j hi hj => ?_⟩
  · rw [upd_ne (by omega), upd_ne (by omega), upd_ne (by omega)]; exact v.1 b hb
  · rw [upd_ne (by omega)]; exact v.2.1 f hf
  · rw [upd_ne (by omega), upd_ne (by omega)]; exact v.2.2 i j hi hj
