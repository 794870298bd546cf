/-! RULES OF THE MEMORY: fields, arrays, ends -/
/-- a field of a known object, by the pool entry of the class that reads it -/
def ac_F (own : String) (idx ci k : Nat) (ty : FieldType) (fin : Bool) : Prop := ∃ (C : String) (T : u_T) (N : Nat) (tyf : Nat → FieldType), vwCl[ci]? = some (C, T, N) ∧ k < N ∧ Cond.fieldLink own idx (T k).1 (T k).2.1 (T k).2.2.1 ∈ ac_tb ∧ (∀ w ∈ u_ws C T N, w ∈ ac_tb) ∧ (∀ k, k < N → parseFieldDescriptor (T k).2.2.1 = some (tyf k)) ∧ (∀ a, a < N → ∀ b, b < N → a ≠ b → (T a).2.1 ≠ (T b).2.1) ∧ tyf k = ty ∧ (T k).2.2.2 = fin ∧ (T k).1 = own
def ac_F0 (own : String) (idx ci k : Nat) : Prop := ∃ (C : String) (T : u_T) (N : Nat), vwCl[ci]? = some (C, T, N) ∧ k < N ∧ Cond.fieldLink own idx (T k).1 (T k).2.1 (T k).2.2.1 ∈ ac_tb ∧ (∀ w ∈ u_ws C T N, w ∈ ac_tb)
def ac_us (sh : Nat → ac_S) (a : Nat) (q : ac_S) : Nat → ac_S := fun b => if b = a then q else sh b
theorem ac_fs_int (g : ac_G) (f : Nat → Int32) : ∀ (tm : List (Option Value)) (j k : Nat), tm[k]? = some none → (ac_fs g f j tm)[k]? = some (.int (f (j + k)))
  | [], _, k, h => by simp at h
  | none :: t, j, 0, _ => rfl
  | some v :: t, j, 0, h => by simp at h
  | o :: t, j, k + 1, h => by
    have ih := ac_fs_int g f t (j + 1) k (by simpa using h)
    have e : j + (k + 1) = j + 1 + k := by omega
    rw [e]
    cases o <;> simpa [ac_fs] using ih
theorem ac_fs_ref (g : ac_G) (f : Nat → Int32) : ∀ (tm : List (Option Value)) (j k : Nat) (v : Value), tm[k]? = some (some v) → (ac_fs g f j tm)[k]? = some (ac_v g v)
  | [], _, k, v, h => by simp at h
  | none :: t, j, 0, v, h => by simp at h
  | some u :: t, j, 0, v, h => by
    simp only [List.getElem?_cons_zero, Option.some.injEq] at h
    subst h
    rfl
  | o :: t, j, k + 1, v, h => by
    have ih := ac_fs_ref g f t (j + 1) k v (by simpa using h)
    cases o <;> simpa [ac_fs] using ih
theorem ac_fs_len (g : ac_G) (f : Nat → Int32) : ∀ (tm : List (Option Value)) (j : Nat), (ac_fs g f j tm).length = tm.length
  | [], _ => rfl
  | none :: t, j => by simp [ac_fs, ac_fs_len g f t (j + 1)]
  | some v :: t, j => by simp [ac_fs, ac_fs_len g f t (j + 1)]
theorem ac_fs_cong (g : ac_G) {f f' : Nat → Int32} : ∀ (tm : List (Option Value)) (j : Nat), (∀ k, j ≤ k → f k = f' k) → ac_fs g f j tm = ac_fs g f' j tm
  | [], _, _ => rfl
  | none :: t, j, h => by simp only [ac_fs]; rw [h j (Nat.le_refl j), ac_fs_cong g t (j + 1) (fun k hk => h k (by omega))]
  | some v :: t, j, h => by simp only [ac_fs]; rw [ac_fs_cong g t (j + 1) (fun k hk => h k (by omega))]
theorem ac_fs_set (g : ac_G) (f : Nat → Int32) (x : Int32) : ∀ (tm : List (Option Value)) (j k : Nat), tm[k]? = some none → ac_fs g (upd f (j + k) x) j tm = (ac_fs g f j tm).set k (.int x)
  | [], _, k, h => by simp at h
  | none :: t, j, 0, _ => by
    simp only [ac_fs, List.set_cons_zero]
    rw [ac_fs_cong g (f := upd f (j + 0) x) (f' := f) t (j + 1) (fun k hk => by unfold upd; rw [if_neg (by omega)])]
    simp [upd]
  | some v :: t, j, 0, h => by simp at h
  | none :: t, j, k + 1, h => by
    have ih := ac_fs_set g f x t (j + 1) k (by simpa using h)
    have e : j + (k + 1) = j + 1 + k := by omega
    rw [e]
    simp only [ac_fs, List.set_cons_succ]
    rw [ih]
    congr 2
    unfold upd
    rw [if_neg (by omega)]
  | some v :: t, j, k + 1, h => by
    have ih := ac_fs_set g f x t (j + 1) k (by simpa using h)
    have e : j + (k + 1) = j + 1 + k := by omega
    rw [e]
    simp only [ac_fs, List.set_cons_succ]
    rw [ih]
theorem ac_fs_setR (g : ac_G) (f : Nat → Int32) (v : Value) : ∀ (tm : List (Option Value)) (j k : Nat), (∃ u, tm[k]? = some (some u)) → ac_fs g f j (tm.set k (some v)) = (ac_fs g f j tm).set k (ac_v g v)
  | [], _, k, h => by obtain ⟨u, h⟩ := h; simp at h
  | none :: t, j, 0, h => by obtain ⟨u, h⟩ := h; simp at h
  | some u :: t, j, 0, _ => rfl
  | none :: t, j, k + 1, h => by
    have ih := ac_fs_setR g f v t (j + 1) k (by simpa using h)
    simp only [List.set_cons_succ, ac_fs]
    rw [ih]
  | some u :: t, j, k + 1, h => by
    have ih := ac_fs_setR g f v t (j + 1) k (by simpa using h)
    simp only [List.set_cons_succ, ac_fs]
    rw [ih]
section AXM
variable {g : ac_G} {I : ac_I} {d mc ms ce sl pc pc' : Nat} {Q : ac_O → ac_W → Prop} {L : List (Option Value)} {S : List Value} {w : ac_W}
variable {ex : Bool} {N : Nat} {sh : Nat → ac_S} {σ : Nat → Nat → Int32} {τ : Nat → Nat → Int64} {a : Nat}
theorem ac_obj {ci : Nat} {tm : List (Option Value)} (ha : a < N) (hs : sh a = .inr (ci, tm)) : (ac_ws g (ex, N, sh, σ, τ))[a]? = some (ac_r g a, .inr (ci, ac_fs g (σ a) 0 tm)) := by
  rw [ac_ws_at ha]
  simp only [ac_c, hs, ac_e]
theorem ac_arrI {n b : Nat} (ha : a < N) (hs : sh a = .inl (0, n, b)) : (ac_ws g (ex, N, sh, σ, τ))[a]? = some (ac_r g a, .inl (g.2.2.2.2.1 0, n, .inl (σ a))) := by
  rw [ac_ws_at ha]
  simp only [ac_c, hs, ac_e]
  rfl
theorem ac_arrB {n b : Nat} (ha : a < N) (hs : sh a = .inl (1, n, b)) : (ac_ws g (ex, N, sh, σ, τ))[a]? = some (ac_r g a, .inl (g.2.2.2.2.1 1, n, .inl (σ a))) := by
  rw [ac_ws_at ha]
  simp only [ac_c, hs, ac_e]
  rfl
theorem ac_arrL {n b : Nat} (ha : a < N) (hs : sh a = .inl (2, n, b)) : (ac_ws g (ex, N, sh, σ, τ))[a]? = some (ac_r g a, .inl (g.2.2.2.2.1 2, n, .inr (.inl (τ a)))) := by
  rw [ac_ws_at ha]
  simp only [ac_c, hs, ac_e]
  rfl
theorem ac_arrR {n b : Nat} (ha : a < N) (hs : sh a = .inl (3, n, b)) : (ac_ws g (ex, N, sh, σ, τ))[a]? = some (ac_r g a, .inl (g.2.2.2.2.1 3, n, .inr (.inr (.inr (.inr fun j => if j < n then some (ac_r g (b + j)) else none))))) := by
  rw [ac_ws_at ha]
  simp only [ac_c, hs, ac_e]
  rfl
/-- one cell written: the world behind it -/
theorem ac_R.put {w w' : ac_W} {H H1 : Heap} {e : va_E} (hR : ac_R g w H) (ha : a < w.2.1) (h1 : w'.1 = w.1) (hn : w'.2.1 = w.2.1) (he : ac_c g w' a = (ac_r g a, e)) (ho : ∀ b, b < w.2.1 → b ≠ a → ac_c g w' b = ac_c g w b) (hP : va_P g.2.2.2.1 vwCl ((ac_ws g w).set a (ac_r g a, e)) H1) (hz : H1.size = H.size) : ac_R g w' H1 := by
  rw [ac_ws_set ha hn he ho] at hP
  exact ⟨hP, by rw [hn]; exact hR.2.1, by rw [hn, hz]; exact hR.2.2.1, fun z => by rw [hn, hz]; exact hR.2.2.2 (by rw [← h1]; exact z)⟩
theorem ax_getI {idx ci k : Nat} {tm : List (Option Value)} (hd : decode I.2.1 pc = .ok (.getfield idx, 3)) (hF : ac_F0 I.1.cls idx ci k) (hs : sh a = .inr (ci, tm)) (hk : tm[k]? = some none) (ha : Nat.blt a N = true) (hp : pc' = pc + 3) (kk : ac_X g I d mc ms Q ce sl pc' L (.int (σ a k) :: S) (ex, N, sh, σ, τ)) : ac_X g I d mc ms Q ce sl pc L (.ref a :: S) (ex, N, sh, σ, τ) := by
  subst hp
  intro p e s m args below meth c X H locs ls hR hS hL
  obtain ⟨C, T, M, h1, h2, h3, h4⟩ := hF
  have hts := X.2.2.2.2.2.2.1
  have hv := ac_fs_int g (σ a) tm 0 k hk
  rw [Nat.zero_add] at hv
  exact va_get X.1 X.2.1 hts (fun w hw => List.mem_cons_of_mem _ (h4 w hw)) X.2.2.2.2.2.1 X.2.2.2.2.2.2.2.2.2.1.1 hR.1 a (ac_obj (Nat.blt_eq.mp ha) hs) h1 k h2 (hts _ (List.mem_cons_of_mem _ h3)) (fun _ z => z) hv hd (kk p e s m args below meth c X H locs ls hR hS hL)
theorem ax_getR {idx ci k : Nat} {tm : List (Option Value)} {v : Value} (hd : decode I.2.1 pc = .ok (.getfield idx, 3)) (hF : ac_F0 I.1.cls idx ci k) (hs : sh a = .inr (ci, tm)) (hk : tm[k]? = some (some v)) (ha : Nat.blt a N = true) (hp : pc' = pc + 3) (kk : ac_X g I d mc ms Q ce sl pc' L (v :: S) (ex, N, sh, σ, τ)) : ac_X g I d mc ms Q ce sl pc L (.ref a :: S) (ex, N, sh, σ, τ) := by
  subst hp
  intro p e s m args below meth c X H locs ls hR hS hL
  obtain ⟨C, T, M, h1, h2, h3, h4⟩ := hF
  have hts := X.2.2.2.2.2.2.1
  exact va_get X.1 X.2.1 hts (fun w hw => List.mem_cons_of_mem _ (h4 w hw)) X.2.2.2.2.2.1 X.2.2.2.2.2.2.2.2.2.1.1 hR.1 a (ac_obj (Nat.blt_eq.mp ha) hs) h1 k h2 (hts _ (List.mem_cons_of_mem _ h3)) (fun _ z => z) (ac_fs_ref g (σ a) tm 0 k v hk) hd (kk p e s m args below meth c X H locs ls hR hS hL)
theorem ax_putI {idx ci k : Nat} {x : Int32} {tm : List (Option Value)} (hd : decode I.2.1 pc = .ok (.putfield idx, 3)) (hF : ac_F I.1.cls idx ci k .int false) (hs : sh a = .inr (ci, tm)) (hk : tm[k]? = some none) (ha : Nat.blt a N = true) (hp : pc' = pc + 3) (kk : ac_X g I d mc ms Q ce sl pc' L S (ex, N, sh, ac_u σ a k x, τ)) : ac_X g I d mc ms Q ce sl pc L (.int x :: .ref a :: S) (ex, N, sh, σ, τ) := by
  subst hp
  intro p e s m args below meth c X H locs ls hR hS hL
  obtain ⟨C, T, M, tyf, hc, hkM, h3, h4, h5, h6, h7, h8, h9⟩ := hF
  have hts := X.2.2.2.2.2.2.1
  have hin : ∀ w ∈ u_ws C T M, w ∈ ac_wd I := fun w hw => List.mem_cons_of_mem _ (h4 w hw)
  have hK := X.2.2.2.2.2.2.2.2.2.1.1
  have hown := X.2.2.2.2.2.1
  have haN : a < N := Nat.blt_eq.mp ha
  have he := ac_obj (g := g) (ex := ex) (σ := σ) (τ := τ) haN hs
  have hD := ac_D (g := g) (w := (ex, N, sh, σ, τ)) hR.2.1
  have hap := va_apart (own := I.1.cls) hts hin tyf h5 h6 hK hc
  obtain ⟨r, g1, cell, q1, q2, q3, q4⟩ := hR.1 a _ he
  have hr : r = (C, T, M) := Option.some.inj (g1.symm.trans hc)
  subst hr
  obtain ⟨hSl, hfc, kC, hkC, hkind⟩ := hK.1 ci _ hc
  obtain ⟨cf, kf, fi, f, hi, hsl⟩ := hSl k hkM
  have hlay := hts _ (hin _ (u_in_lay hkM))
  unfold u_lay at hlay
  rw [if_neg (by rw [h8]; decide)] at hlay
  have hst := (u_facts hfc hkC (u_lays hts hin hkM) hi).1
  have hlink := hts _ (List.mem_cons_of_mem _ h3)
  have hty : parseFieldDescriptor (T k).2.2.1 = some .int := by rw [h5 k hkM, h7]
  have h6' := u_store hfc hkC hkind hlay hi hty (v := .int x) rfl rfl
  refine W.putK X.1 X.2.1 (f := f) ⟨hown, hlink, ⟨_, _, _, hi⟩, hst⟩ (by rw [q2]; exact h6') q1 q3 (by rw [hsl]; exact k2_hasslot (q4 k hkM)) rfl rfl hd fun H1 e1 e2 e3 => ?_
  rw [hsl] at e1 ⊢
  have hl : k < (ac_fs g (σ a) 0 tm).length := by rw [ac_fs_len]; exact (List.getElem?_eq_some_iff.mp hk).1
  have hP1 : va_P g.2.2.2.1 vwCl ((ac_ws g (ex, N, sh, σ, τ)).set a (ac_r g a, .inr (ci, (ac_fs g (σ a) 0 tm).set k (.int x)))) H1 := hR.1.set hD he ⟨_, hc, t_OB.to (V := updV (vp_V (ac_fs g (σ a) 0 tm)) k (.int x)) ⟨_, e1, q2, q3, t_set q4 hap hkM _⟩ (fun j _ => vp_updV_set hl _ j)⟩ e3
  refine kk p e s m args below meth c X H1 _ ls (ac_R.put hR haN (w' := (ex, N, sh, ac_u σ a k x, τ)) rfl rfl (by
    have z := ac_fs_set g (σ a) x tm 0 k hk
    rw [Nat.zero_add] at z
    simp only [ac_c, ac_u, if_pos, hs, ac_e, z]) (fun b hb hne => ?_) hP1 e2) (hS.put e2 e3 (hD.2 a _ he)) hL
  simp only [ac_c, ac_u, if_neg hne]
theorem ax_putR {idx ci k : Nat} {b : Nat} {ty : FieldType} {u : Value} {tm : List (Option Value)} (hd : decode I.2.1 pc = .ok (.putfield idx, 3)) (hF : ac_F I.1.cls idx ci k ty true) (hini : I.1.name = "<init>") (hnar : ∀ q, narrow ty (.ref q) = .ref q) (hfit : ∀ q, fits ty (.ref q) = true) (hs : sh a = .inr (ci, tm)) (hk : tm[k]? = some (some u)) (ha : Nat.blt a N = true) (hp : pc' = pc + 3) (kk : ac_X g I d mc ms Q ce sl pc' L S (ex, N, ac_us sh a (.inr (ci, tm.set k (some (.ref b)))), σ, τ)) : ac_X g I d mc ms Q ce sl pc L (.ref b :: .ref a :: S) (ex, N, sh, σ, τ) := by
  subst hp
  intro p e s m args below meth c X H locs ls hR hS hL
  obtain ⟨C, T, M, tyf, hc, hkM, h3, h4, h5, h6, h7, h8, h9⟩ := hF
  have hts := X.2.2.2.2.2.2.1
  have hin : ∀ w ∈ u_ws C T M, w ∈ ac_wd I := fun w hw => List.mem_cons_of_mem _ (h4 w hw)
  have hK := X.2.2.2.2.2.2.2.2.2.1.1
  have hown := X.2.2.2.2.2.1
  have haN : a < N := Nat.blt_eq.mp ha
  have he := ac_obj (g := g) (ex := ex) (σ := σ) (τ := τ) haN hs
  have hD := ac_D (g := g) (w := (ex, N, sh, σ, τ)) hR.2.1
  have hap := va_apart (own := I.1.cls) hts hin tyf h5 h6 hK hc
  obtain ⟨r, g1, cell, q1, q2, q3, q4⟩ := hR.1 a _ he
  have hr : r = (C, T, M) := Option.some.inj (g1.symm.trans hc)
  subst hr
  obtain ⟨hSl, hfc, kC, hkC, hkind⟩ := hK.1 ci _ hc
  obtain ⟨cf, kf, fi, f, hi, hsl⟩ := hSl k hkM
  have hlay := hts _ (hin _ (u_in_lay hkM))
  unfold u_lay at hlay
  rw [if_pos h8] at hlay
  have hst := (u_facts hfc hkC (u_lays hts hin hkM) hi).1
  have hlink := hts _ (List.mem_cons_of_mem _ h3)
  have hty : parseFieldDescriptor (T k).2.2.1 = some ty := by rw [h5 k hkM, h7]
  have hcf : m.cls = cf := by
    obtain ⟨_, _, c', _, _, _, -, -, hf', -, -, -, hown2, -⟩ := Cond.laysFinal_spec hlay
    have e1 : c' = cf := by have := hi.symm.trans hf'; simp at this; exact this.1.symm
    rw [h9] at hown2
    rw [← e1]; exact Option.some.inj (hown.symm.trans hown2)
  have h6' := u_fits hfc hkC hkind (Or.inr hlay) hi hty (v := .ref (ac_r g b)) (hnar _) (hfit _)
  refine W.putFinK X.1 X.2.1 hown hlink hi hst hcf (X.2.2.2.2.2.2.2.2.1.trans hini) (by rw [q2]; exact h6') q1 q3 (by rw [hsl]; exact k2_hasslot (q4 k hkM)) rfl rfl hd fun H1 e1 e2 e3 => ?_
  rw [hsl] at e1 ⊢
  have hl : k < (ac_fs g (σ a) 0 tm).length := by rw [ac_fs_len]; exact (List.getElem?_eq_some_iff.mp hk).1
  have hP1 : va_P g.2.2.2.1 vwCl ((ac_ws g (ex, N, sh, σ, τ)).set a (ac_r g a, .inr (ci, (ac_fs g (σ a) 0 tm).set k (.ref (ac_r g b))))) H1 := hR.1.set hD he ⟨_, hc, t_OB.to (V := updV (vp_V (ac_fs g (σ a) 0 tm)) k (.ref (ac_r g b))) ⟨_, e1, q2, q3, t_set q4 hap hkM _⟩ (fun j _ => vp_updV_set hl _ j)⟩ e3
  refine kk p e s m args below meth c X H1 _ ls (ac_R.put hR haN (w' := (ex, N, ac_us sh a (.inr (ci, tm.set k (some (.ref b)))), σ, τ)) rfl rfl (by
    have z := ac_fs_setR g (σ a) (.ref b) tm 0 k ⟨_, hk⟩
    simp only [ac_c, ac_us, if_pos, ac_e, z]
    rfl) (fun b hb hne => ?_) hP1 e2) (hS.put e2 e3 (hD.2 a _ he)) hL
  simp only [ac_c, ac_us, if_neg hne]
theorem ax_iald {n b : Nat} {j : Int32} (hd : decode I.2.1 pc = .ok (.iaload, 1)) (hs : sh a = .inl (0, n, b)) (hj : vp_in j n) (ha : Nat.blt a N = true) (hp : pc' = pc + 1) (kk : ac_X g I d mc ms Q ce sl pc' L (.int (σ a j.toNatClampNeg) :: S) (ex, N, sh, σ, τ)) : ac_X g I d mc ms Q ce sl pc L (.int j :: .ref a :: S) (ex, N, sh, σ, τ) := by
  subst hp
  intro p e s m args below meth c X H locs ls hR hS hL
  exact va_iald X.1 X.2.1 X.2.2.2.2.2.2.2.2.2.1.1 hR.1 a 0 (ac_arrI (Nat.blt_eq.mp ha) hs) rfl hj hd (kk p e s m args below meth c X H locs ls hR hS hL)
theorem ax_iast {n b : Nat} {j : Int32} {x : Int32} (hd : decode I.2.1 pc = .ok (.iastore, 1)) (hs : sh a = .inl (0, n, b)) (hj : vp_in j n) (ha : Nat.blt a N = true) (hp : pc' = pc + 1) (kk : ac_X g I d mc ms Q ce sl pc' L S (ex, N, sh, ac_u σ a j.toNatClampNeg x, τ)) : ac_X g I d mc ms Q ce sl pc L (.int x :: .int j :: .ref a :: S) (ex, N, sh, σ, τ) := by
  subst hp
  intro p e s m args below meth c X H locs ls hR hS hL
  have haN : a < N := Nat.blt_eq.mp ha
  have he := ac_arrI (g := g) (ex := ex) (σ := σ) (τ := τ) haN hs
  have hD := ac_D (g := g) (w := (ex, N, sh, σ, τ)) hR.2.1
  refine W.iast X.1 X.2.1 (hR.1 a _ he) ((X.2.2.2.2.2.2.2.2.2.1.1.2 0 _ rfl).1 n (fun j => .int (σ a j))) (fun q => by cases q) (by show ¬ (j < 0 ∨ (arrV _ _ _).slots.size ≤ _); rw [arrV_size]; exact hj) rfl rfl hd fun H1 e1 z oq => ?_
  have hP1 : va_P g.2.2.2.1 vwCl ((ac_ws g (ex, N, sh, σ, τ)).set a (ac_r g a, .inl (g.2.2.2.2.1 0, n, .inl (upd (σ a) j.toNatClampNeg x)))) H1 := hR.1.set hD he (by
    show H1[ac_r g a]? = some (vp_cell _ _)
    rw [e1]
    rw [vp_cell_i, vp_cell_i, arrV_store]
    congr 2
    funext q
    by_cases hq : q = j.toNatClampNeg
    · subst hq
      simp [updV, upd]
      try rfl
    · simp [updV, upd, hq]) oq
  refine kk p e s m args below meth c X H1 _ ls (ac_R.put hR haN (w' := (ex, N, sh, ac_u σ a j.toNatClampNeg x, τ)) rfl rfl (by simp only [ac_c, ac_u, if_pos, hs, ac_e]; rfl) (fun b hb hne => ?_) hP1 z) (hS.put z oq (hD.2 a _ he)) hL
  simp only [ac_c, ac_u, if_neg hne]
theorem ax_bald {n b : Nat} {j : Int32} (hd : decode I.2.1 pc = .ok (.baload, 1)) (hs : sh a = .inl (1, n, b)) (hj : vp_in j n) (ha : Nat.blt a N = true) (hp : pc' = pc + 1) (kk : ac_X g I d mc ms Q ce sl pc' L (.int (σ a j.toNatClampNeg) :: S) (ex, N, sh, σ, τ)) : ac_X g I d mc ms Q ce sl pc L (.int j :: .ref a :: S) (ex, N, sh, σ, τ) := by
  subst hp
  intro p e s m args below meth c X H locs ls hR hS hL
  exact va_bald X.1 X.2.1 X.2.2.2.2.2.2.2.2.2.1.1 hR.1 a 1 (ac_arrB (Nat.blt_eq.mp ha) hs) rfl hj hd (kk p e s m args below meth c X H locs ls hR hS hL)
theorem ax_bast {n b : Nat} {j : Int32} {x : Int32} (hd : decode I.2.1 pc = .ok (.bastore, 1)) (hs : sh a = .inl (1, n, b)) (hj : vp_in j n) (ha : Nat.blt a N = true) (hp : pc' = pc + 1) (kk : ac_X g I d mc ms Q ce sl pc' L S (ex, N, sh, ac_u σ a j.toNatClampNeg (vp_nar .byte x), τ)) : ac_X g I d mc ms Q ce sl pc L (.int x :: .int j :: .ref a :: S) (ex, N, sh, σ, τ) := by
  subst hp
  intro p e s m args below meth c X H locs ls hR hS hL
  have haN : a < N := Nat.blt_eq.mp ha
  have he := ac_arrB (g := g) (ex := ex) (σ := σ) (τ := τ) haN hs
  have hD := ac_D (g := g) (w := (ex, N, sh, σ, τ)) hR.2.1
  refine W.bast X.1 X.2.1 (hR.1 a _ he) ((X.2.2.2.2.2.2.2.2.2.1.1.2 1 _ rfl).1 n (fun j => .int (σ a j))) (fun q => by cases q) (by show ¬ (j < 0 ∨ (arrV _ _ _).slots.size ≤ _); rw [arrV_size]; exact hj) rfl rfl hd fun H1 e1 z oq => ?_
  have hP1 : va_P g.2.2.2.1 vwCl ((ac_ws g (ex, N, sh, σ, τ)).set a (ac_r g a, .inl (g.2.2.2.2.1 1, n, .inl (upd (σ a) j.toNatClampNeg (vp_nar .byte x))))) H1 := hR.1.set hD he (by
    show H1[ac_r g a]? = some (vp_cell _ _)
    rw [e1]
    rw [vp_cell_i, vp_cell_i, arrV_store]
    congr 2
    funext q
    by_cases hq : q = j.toNatClampNeg
    · subst hq
      simp [updV, upd, vp_nar]
      try rfl
    · simp [updV, upd, hq]) oq
  refine kk p e s m args below meth c X H1 _ ls (ac_R.put hR haN (w' := (ex, N, sh, ac_u σ a j.toNatClampNeg (vp_nar .byte x), τ)) rfl rfl (by simp only [ac_c, ac_u, if_pos, hs, ac_e]; rfl) (fun b hb hne => ?_) hP1 z) (hS.put z oq (hD.2 a _ he)) hL
  simp only [ac_c, ac_u, if_neg hne]
theorem ax_lald {n b : Nat} {j : Int32} (hd : decode I.2.1 pc = .ok (.laload, 1)) (hs : sh a = .inl (2, n, b)) (hj : vp_in j n) (ha : Nat.blt a N = true) (hp : pc' = pc + 1) (kk : ac_X g I d mc ms Q ce sl pc' L (.long (τ a j.toNatClampNeg) :: S) (ex, N, sh, σ, τ)) : ac_X g I d mc ms Q ce sl pc L (.int j :: .ref a :: S) (ex, N, sh, σ, τ) := by
  subst hp
  intro p e s m args below meth c X H locs ls hR hS hL
  exact va_lald X.1 X.2.1 X.2.2.2.2.2.2.2.2.2.1.1 hR.1 a 2 (ac_arrL (Nat.blt_eq.mp ha) hs) rfl hj hd (kk p e s m args below meth c X H locs ls hR hS hL)
theorem ax_last {n b : Nat} {j : Int32} {x : Int64} (hd : decode I.2.1 pc = .ok (.lastore, 1)) (hs : sh a = .inl (2, n, b)) (hj : vp_in j n) (ha : Nat.blt a N = true) (hp : pc' = pc + 1) (kk : ac_X g I d mc ms Q ce sl pc' L S (ex, N, sh, σ, ac_uL τ a j.toNatClampNeg x)) : ac_X g I d mc ms Q ce sl pc L (.long x :: .int j :: .ref a :: S) (ex, N, sh, σ, τ) := by
  subst hp
  intro p e s m args below meth c X H locs ls hR hS hL
  have haN : a < N := Nat.blt_eq.mp ha
  have he := ac_arrL (g := g) (ex := ex) (σ := σ) (τ := τ) haN hs
  have hD := ac_D (g := g) (w := (ex, N, sh, σ, τ)) hR.2.1
  refine W.last X.1 X.2.1 (hR.1 a _ he) ((X.2.2.2.2.2.2.2.2.2.1.1.2 2 _ rfl).1 n (fun j => .long (τ a j))) (fun q => by cases q) (by show ¬ (j < 0 ∨ (arrV _ _ _).slots.size ≤ _); rw [arrV_size]; exact hj) rfl rfl hd fun H1 e1 z oq => ?_
  have hP1 : va_P g.2.2.2.1 vwCl ((ac_ws g (ex, N, sh, σ, τ)).set a (ac_r g a, .inl (g.2.2.2.2.1 2, n, .inr (.inl (vp_updL (τ a) j.toNatClampNeg x))))) H1 := hR.1.set hD he (by
    show H1[ac_r g a]? = some (vp_cell _ _)
    rw [e1]
    rw [vp_cell_l, vp_cell_l, arrV_store]
    congr 2
    funext q
    by_cases hq : q = j.toNatClampNeg
    · subst hq
      simp [updV, vp_updL]
      try rfl
    · simp [updV, vp_updL, hq]) oq
  refine kk p e s m args below meth c X H1 _ ls (ac_R.put hR haN (w' := (ex, N, sh, σ, ac_uL τ a j.toNatClampNeg x)) rfl rfl (by simp only [ac_c, ac_uL, if_pos, hs, ac_e]; rfl) (fun b hb hne => ?_) hP1 z) (hS.put z oq (hD.2 a _ he)) hL
  simp only [ac_c, ac_uL, if_neg hne]
theorem ax_aald {n b : Nat} {j : Int32} (hd : decode I.2.1 pc = .ok (.aaload, 1)) (hs : sh a = .inl (3, n, b)) (hj : vp_in j n) (ha : Nat.blt a N = true) (hp : pc' = pc + 1) (kk : ac_X g I d mc ms Q ce sl pc' L (.ref (b + j.toNatClampNeg) :: S) (ex, N, sh, σ, τ)) : ac_X g I d mc ms Q ce sl pc L (.int j :: .ref a :: S) (ex, N, sh, σ, τ) := by
  subst hp
  intro p e s m args below meth c X H locs ls hR hS hL
  have hlt : j.toNatClampNeg < n := Nat.not_le.mp fun q => hj (Or.inr q)
  have he := ac_arrR (g := g) (ex := ex) (σ := σ) (τ := τ) (Nat.blt_eq.mp ha) hs
  refine W.aald (v := .ref (ac_r g (b + j.toNatClampNeg))) (ty := .array .int) X.1 X.2.1 (hR.1 a _ he) ((X.2.2.2.2.2.2.2.2.2.1.1.2 3 _ rfl).1 n (fun i => va_rf (if i < n then some (ac_r g (b + i)) else none))) rfl (fun q => by cases q) (by show ¬ (j < 0 ∨ (arrV _ _ _).slots.size ≤ _); rw [arrV_size]; exact hj) (by show (arrV _ _ _).slots[_]? = _; rw [arrV_read _ _ hlt]; show some (va_rf (if j.toNatClampNeg < n then some (ac_r g (b + j.toNatClampNeg)) else none)) = _; rw [if_pos hlt]; rfl) rfl rfl hd (kk p e s m args below meth c X H locs ls hR hS hL)
theorem ax_alen {kd n b : Nat} {v : Int32} (hd : decode I.2.1 pc = .ok (.arraylength, 1)) (hs : sh a = .inl (kd, n, b)) (hkd : Nat.ble kd 3 = true) (hv : Int32.ofNat n = v) (ha : Nat.blt a N = true) (hp : pc' = pc + 1) (kk : ac_X g I d mc ms Q ce sl pc' L (.int v :: S) (ex, N, sh, σ, τ)) : ac_X g I d mc ms Q ce sl pc L (.ref a :: S) (ex, N, sh, σ, τ) := by
  subst hp
  intro p e s m args below meth c X H locs ls hR hS hL
  have hk3 : kd ≤ 3 := Nat.le_of_ble_eq_true hkd
  have he : ∃ x : vp_A, (ac_ws g (ex, N, sh, σ, τ))[a]? = some (ac_r g a, .inl (g.2.2.2.2.1 kd, x)) ∧ x.1 = n := by
    rw [ac_ws_at (Nat.blt_eq.mp ha)]
    simp only [ac_c, hs, ac_e]
    exact ⟨_, rfl, rfl⟩
  obtain ⟨x, he, hx⟩ := he
  have ht : ∃ ty, (ac_ty g)[kd]? = some (g.2.2.2.2.1 kd, ty) := by
    have : kd = 0 ∨ kd = 1 ∨ kd = 2 ∨ kd = 3 := by omega
    rcases this with rfl | rfl | rfl | rfl <;> exact ⟨_, rfl⟩
  obtain ⟨ty, ht⟩ := ht
  exact va_alen X.1 X.2.1 X.2.2.2.2.2.2.2.2.2.1.1 hR.1 a kd he ht (by rw [hx]; exact hv) hd (kk p e s m args below meth c X H locs ls hR hS hL)
/-! ends -/
theorem ax_iret {v : Int32} (hd : decode I.2.1 pc = .ok (.ireturn, 1)) (hr : I.2.2.2.1 = some .int) (hc : Nat.ble ce mc = true) (hsl : Nat.ble sl ms = true) (hQ : Q (.inl (some (.int v))) w) : ac_X g I d mc ms Q ce sl pc L [.int v] w := by
  intro p e s m args below meth c X H locs ls hR hS hL
  exact vx_ret (W.widen (Nat.le_of_ble_eq_true hc) (Nat.le_of_ble_eq_true hsl) (W.iret (v := v) X.1 X.2.1 (X.2.2.2.1.trans hr) (fun t ht hW => ⟨⟨some (.int v), w, rfl, hQ, by rw [ht]; exact hR⟩, hS.F ht⟩) hS.2.2 hd (hlocks := X.2.2.2.2.1)))
theorem ax_zret {v : Int32} {ty : FieldType} (hd : decode I.2.1 pc = .ok (.ireturn, 1)) (hr : I.2.2.2.1 = some ty) (hn : narrow ty (.int v) = .int v) (hc : Nat.ble ce mc = true) (hsl : Nat.ble sl ms = true) (hQ : Q (.inl (some (.int v))) w) : ac_X g I d mc ms Q ce sl pc L [.int v] w := by
  intro p e s m args below meth c X H locs ls hR hS hL
  exact vx_ret (W.widen (Nat.le_of_ble_eq_true hc) (Nat.le_of_ble_eq_true hsl) (W.zret (v := v) (ty := ty) X.1 X.2.1 (X.2.2.2.1.trans hr) hn (fun t ht hW => ⟨⟨some (.int v), w, rfl, hQ, by rw [ht]; exact hR⟩, hS.F ht⟩) hS.2.2 hd (hlocks := X.2.2.2.2.1)))
theorem ax_lret {v : Int64} (hd : decode I.2.1 pc = .ok (.lreturn, 1)) (hr : I.2.2.2.1 = some .long) (hc : Nat.ble ce mc = true) (hsl : Nat.ble sl ms = true) (hQ : Q (.inl (some (.long v))) w) : ac_X g I d mc ms Q ce sl pc L [.long v] w := by
  intro p e s m args below meth c X H locs ls hR hS hL
  exact vx_ret (W.widen (Nat.le_of_ble_eq_true hc) (Nat.le_of_ble_eq_true hsl) (W.lret (v := v) X.1 X.2.1 (X.2.2.2.1.trans hr) (fun t ht hW => ⟨⟨some (.long v), w, rfl, hQ, by rw [ht]; exact hR⟩, hS.F ht⟩) hS.2.2 hd (hlocks := X.2.2.2.2.1)))
theorem ax_vret (hd : decode I.2.1 pc = .ok (.return_, 1)) (hr : I.2.2.2.1 = none) (hc : Nat.ble ce mc = true) (hsl : Nat.ble sl ms = true) (hQ : Q (.inl none) w) : ac_X g I d mc ms Q ce sl pc L [] w := by
  intro p e s m args below meth c X H locs ls hR hS hL
  exact vx_ret (W.widen (Nat.le_of_ble_eq_true hc) (Nat.le_of_ble_eq_true hsl) (W.vret X.1 X.2.1 (X.2.2.2.1.trans hr) (fun t ht hW => ⟨⟨none, w, rfl, hQ, by rw [ht]; exact hR⟩, hS.F ht⟩) hS.2.2 hd (hlocks := X.2.2.2.2.1)))
end AXM
