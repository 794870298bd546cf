/-! WHAT IS CAUGHT -/
section AXH
variable {g : ac_G} {I I2 : ac_I} {d mc ms mc2 ms2 ce sl pc pc' n idx : Nat} {Q : ac_O → ac_W → Prop} {L : List (Option Value)} {S : List Value} {w : ac_W}
variable {ex : Bool} {N : Nat} {sh : Nat → ac_S} {σ : Nat → Nat → Int32} {τ : Nat → Nat → Int64} {a : Nat}
theorem ac_L.over {ls' : Array Slot} {nL i : Nat} {v : Value} (hi : L[i]? = some none) (ho : ∀ j u, j + 1 = i → L[j]? = some (some u) → u.category ≠ 2)
    (h' : lv_has ls' nL ((i, v) :: (ac_lv g L).filter (fun q => !(q.1 == i) && !(q.1 + 1 == i && q.2.category == 2)))) : ac_L g ls' nL L := by
  refine ⟨h'.1, h'.2.1, fun k u hk => ?_⟩
  have h1 : k ≠ i := fun z => by subst z; rw [hi] at hk; cases hk
  refine h'.2.2 (k, ac_v g u) (List.mem_cons_of_mem _ (List.mem_filter.mpr ⟨ac_mem_lv hk, ?_⟩))
  have a1 : (k == i) = false := by simpa using h1
  have a2 : (k + 1 == i && (ac_v g u).category == 2) = false := by
    by_cases e : k + 1 = i
    · have := ho k u e hk
      rw [ac_v_cat]
      simp [this]
    · simp [e]
  simp only [a1, a2]
  rfl
/-- the place of a handler: what was thrown is put away -/
def ac_Hd (I : ac_I) (L : List (Option Value)) (h hp : Nat) : Prop := ∃ i : Nat, ((∃ k : Fin 4, (k : Nat) = i ∧ decode I.2.1 h = .ok (.astore_n k, 1) ∧ hp = h + 1) ∨ (decode I.2.1 h = .ok (.astore i, 2) ∧ hp = h + 2)) ∧ i < I.2.2.1 ∧ L[i]? = some none ∧ ∀ j u, j + 1 = i → L[j]? = some (some u) → u.category ≠ 2
theorem ac_hand {h hp q : Nat} {p : Program} {e : Env} {s : State} {m : MethodId} {args : Array Value} {below : List Frame} {meth : Method} {c : Code} {H : Heap} {locs : List Loc} {ls : Array Slot} (hd : ac_Hd I L h hp) (X : ac_C g I p s m args meth c) (hR : ac_R g w H) (hS : va_S (ac_Z g) s.heap H locs) (hL : ac_L g ls I.2.2.1 L) (kk : ac_X g I d mc ms Q ce sl hp L [] w) :
    W p g.1 e (ac_rm d mc ms) s m args below meth c H locs ce sl (vx_MQ below (ac_Q g Q) (ac_T g Q) args s mc ms (ac_Z g)) (F0 m h ls [.ref q]) := by
  obtain ⟨i, hd, hn, hi, ho⟩ := hd
  rcases hd with ⟨k, hk, hd, rfl⟩ | ⟨hd, rfl⟩
  · exact lv_astore_n X.1 X.2.1 hd hk (ac_L.lv hL) hn rfl (fun ls' h' => kk p e s m args below meth c X H locs ls' hR hS (ac_L.over hi ho h'))
  · exact lv_astore X.1 X.2.1 hd (ac_L.lv hL) hn rfl (fun ls' h' => kk p e s m args below meth c X H locs ls' hR hS (ac_L.over hi ho h'))
def ac_K1 (g : ac_G) (I : ac_I) (d mc ms : Nat) (Q : ac_O → ac_W → Prop) (ce sl pc : Nat) (L : List (Option Value)) (S : List Value) (C : String) (hp : Nat) : ac_O → ac_W → Prop := fun o w => match o with
  | .inl v => ac_X g I d mc ms Q ce sl pc L (v.toList ++ S) w
  | .inr E => E = C ∧ ac_X g I d mc ms Q ce sl hp L [] w
def ac_K2 (g : ac_G) (I : ac_I) (d mc ms : Nat) (Q : ac_O → ac_W → Prop) (ce sl pc : Nat) (L : List (Option Value)) (S : List Value) (C1 : String) (hp1 : Nat) (C2 : String) (hp2 : Nat) : ac_O → ac_W → Prop := fun o w => match o with
  | .inl v => ac_X g I d mc ms Q ce sl pc L (v.toList ++ S) w
  | .inr E => (E = C1 ∧ ac_X g I d mc ms Q ce sl hp1 L [] w) ∨ (E = C2 ∧ ac_X g I d mc ms Q ce sl hp2 L [] w)
/-- the words of a handler -/
def ac_Cw (own : String) (ct : Nat) (C : String) : Prop := ct ≠ 0 ∧ Cond.classLink own ct C ∈ ac_tb ∧ Cond.castable C C ∈ lw_tbl ∧ (Cond.castable C C).onTables = true ∧ (Cond.castable C C).keepsFace = true
theorem ax_try1 {ci f t h hp ct : Nat} {C : String} {tm : List (Option Value)} {As St : List Value} (hst : St = As.reverse ++ .ref a :: S) (hd : decode I.2.1 pc = .ok (.invokevirtual idx, 3)) (hV : ac_V I.1.cls idx I2 n) (hs : sh a = .inr (ci, tm)) (hci : (vwCl[ci]?).map (fun q => q.1) = some I2.1.cls) (ha : Nat.blt a N = true) (hn : As.length = n) (hh2 : I2.2.2.2.2 = []) (hh : I.2.2.2.2 = [(f, t, h, ct)]) (hcv : Nat.ble f pc && Nat.blt pc t = true) (hC : ac_Cw I.1.cls ct C) (hH : ac_Hd I L h hp) (hw : Nat.ble ((S.map fun v => v.category).sum) 8 = true) (hb1 : Nat.ble (ce + mc2) mc = true) (hb2 : Nat.ble (sl + ms2) ms = true)
    (hM : ac_M g I2 d mc2 ms2 (.ref a :: As) (ex, N, sh, σ, τ) (ac_K1 g I (d + 1) mc ms Q (ce + mc2) (sl + ms2) (pc + 3) L S C hp)) : ac_X g I (d + 1) mc ms Q ce sl pc L St (ex, N, sh, σ, τ) := by
  subst hst
  intro p e s m args below meth c X H locs ls hR hS hL
  obtain ⟨v1, v2, v3, v4, v5, v6, v7⟩ := hV
  have hts := X.2.2.2.2.2.2.1
  have haN : a < N := Nat.blt_eq.mp ha
  have hw2 : ac_wd I2 = Cond.code I2.1 I2.2.1 I2.2.2.1 I2.2.2.2.1 :: ac_tb := by
    unfold ac_wd ac_code
    rw [hh2]
  have hG : GoodIn (ac_wd I) (wsV I.1.cls idx I2.1.cls I2.1 (ac_wd I2)) := ac_good_c v1 (ac_good_c v2 (ac_good_c v3 (ac_good_c v4 (ac_good_wd v5))))
  have cw := cwV (R := ac_rm (d + 1) mc ms) (rm := ac_rm d mc2 ms2) n hts hG hw2 rfl rfl ⟨rfl, v6⟩ (ac_rooms v7)
  obtain ⟨q, hq, hq1⟩ : ∃ q, vwCl[ci]? = some q ∧ q.1 = I2.1.cls := by
    cases hc : vwCl[ci]? with
    | none => rw [hc] at hci; cases hci
    | some q => rw [hc] at hci; exact ⟨q, rfl, Option.some.inj hci⟩
  have hA := X.2.2.2.2.2.2.2.2.2.1
  have hrecv := va_recv hA.1 hR.1 hq (ac_obj (g := g) (ex := ex) (σ := σ) (τ := τ) haN hs)
  rw [hq1] at hrecv
  have hrun := vx_runV (e := e) (below := below) (meth := meth) (locs := locs) (cells := ce) (slots := sl) (g := F0 m pc ls ((As.reverse ++ .ref a :: S).map (ac_v g))) (rest := S.map (ac_v g)) (As := As.map (ac_v g)) (b := ac_r g a) ⟨X.1, X.2.1, X.2.2.1, X.2.2.2.2.2.1, hts⟩ (hM X.2.2.2.2.2.2.2.2.2.2.2) cw
    ⟨ac_P.blind g _ _, hrecv, fun U hU hW => ⟨rfl, by rw [hU]; exact hR, by rw [hU]; exact hA.later X.2.2.2.2.2.2.2.2.2.2.1 hW hS⟩⟩ rfl (by rw [List.length_map]; exact hn) hL.1
    (by simp [List.map_append, List.map_reverse, ac_v]) (lv_room (by rw [ac_sum]; exact Nat.le_of_ble_eq_true hw)) hd ⟨Nat.le_of_ble_eq_true hb1, Nat.le_of_ble_eq_true hb2⟩
  intro T hT XS
  rcases hrun T hT XS with ⟨v, st0, t1, T', L1, h0, X', hL1, e1, e2, ⟨⟨v', w', hv, hq', hR'⟩, hF⟩, st⟩ | ⟨q', st0, t1, T', L1, E, cel, h0, X', hL1, e1, e2, ⟨w', ⟨rfl, hq'⟩, hR', hF⟩, hcell, hcv', hcl, st⟩
  · cases hv
    obtain ⟨-, -, k3⟩ := vx_keep h0 e1 hS (A1 := ac_Z g) (fun _ _ z => z) (fun _ z => z) hL1 hF
    obtain ⟨t2, a1, b1⟩ := hq' p e s m args below meth c X T'.heap (locs ++ L1) ls (by rw [e1]; exact hR') k3 hL T' rfl X'
    rw [ac_lists] at a1
    exact ⟨t2, st t2 a1, b1⟩
  · obtain ⟨-, -, k3⟩ := vx_keep h0 e1 hS (A1 := ac_Z g) (fun _ _ z => z) (fun _ z => z) hL1 hF
    have hsp : c.exceptionTable.toList = [] ++ (⟨f, t, h, ct⟩ : ExceptionTableEntry) :: [] := by rw [X.2.2.2.2.2.2.2.1, hh]; rfl
    obtain ⟨t2, a1, b1⟩ := vx_catch (own := I.1.cls) (name := E) (E := E) (rest := S.map (ac_v g)) (ls := ls) X.2.2.2.2.2.1 [] _ [] hsp (fun z hz => nomatch hz) (by unfold covers; simpa using hcv) hC.1 (hts _ (List.mem_cons_of_mem _ hC.2.1)) (va_Nw.use hC.2.2.2.1 (hA.2.2.2.1.1 _ hC.2.2.1 hC.2.2.2.1 hC.2.2.2.2)) (by rw [e1]; exact hcell) hcv' hcl (ac_hand (ls := ls) hH X (by rw [e1]; exact hR') k3 hL hq') T' rfl X'
    exact ⟨t2, st.trans a1, b1⟩
theorem ax_try2 {ci f t h1 hp1 ct1 h2 hp2 ct2 : Nat} {tm : List (Option Value)} {As St : List Value} (hst : St = As.reverse ++ .ref a :: S) (hd : decode I.2.1 pc = .ok (.invokevirtual idx, 3)) (hV : ac_V I.1.cls idx I2 n) (hs : sh a = .inr (ci, tm)) (hci : (vwCl[ci]?).map (fun q => q.1) = some I2.1.cls) (ha : Nat.blt a N = true) (hn : As.length = n) (hh2 : I2.2.2.2.2 = []) (hh : I.2.2.2.2 = [(f, t, h1, ct1), (f, t, h2, ct2)]) (hcv : Nat.ble f pc && Nat.blt pc t = true) (hC1 : ac_Cw I.1.cls ct1 "java/util/NoSuchElementException") (hC2 : ac_Cw I.1.cls ct2 "java/lang/IllegalArgumentException") (hH1 : ac_Hd I L h1 hp1) (hH2 : ac_Hd I L h2 hp2) (hw : Nat.ble ((S.map fun v => v.category).sum) 8 = true) (hb1 : Nat.ble (ce + mc2) mc = true) (hb2 : Nat.ble (sl + ms2) ms = true)
    (hM : ac_M g I2 d mc2 ms2 (.ref a :: As) (ex, N, sh, σ, τ) (ac_K2 g I (d + 1) mc ms Q (ce + mc2) (sl + ms2) (pc + 3) L S "java/util/NoSuchElementException" hp1 "java/lang/IllegalArgumentException" hp2)) : ac_X g I (d + 1) mc ms Q ce sl pc L St (ex, N, sh, σ, τ) := by
  subst hst
  intro p e s m args below meth c X H locs ls hR hS hL
  obtain ⟨v1, v2, v3, v4, v5, v6, v7⟩ := hV
  have hts := X.2.2.2.2.2.2.1
  have haN : a < N := Nat.blt_eq.mp ha
  have hw2 : ac_wd I2 = Cond.code I2.1 I2.2.1 I2.2.2.1 I2.2.2.2.1 :: ac_tb := by
    unfold ac_wd ac_code
    rw [hh2]
  have hG : GoodIn (ac_wd I) (wsV I.1.cls idx I2.1.cls I2.1 (ac_wd I2)) := ac_good_c v1 (ac_good_c v2 (ac_good_c v3 (ac_good_c v4 (ac_good_wd v5))))
  have cw := cwV (R := ac_rm (d + 1) mc ms) (rm := ac_rm d mc2 ms2) n hts hG hw2 rfl rfl ⟨rfl, v6⟩ (ac_rooms v7)
  obtain ⟨q, hq, hq1⟩ : ∃ q, vwCl[ci]? = some q ∧ q.1 = I2.1.cls := by
    cases hc : vwCl[ci]? with
    | none => rw [hc] at hci; cases hci
    | some q => rw [hc] at hci; exact ⟨q, rfl, Option.some.inj hci⟩
  have hA := X.2.2.2.2.2.2.2.2.2.1
  have hrecv := va_recv hA.1 hR.1 hq (ac_obj (g := g) (ex := ex) (σ := σ) (τ := τ) haN hs)
  rw [hq1] at hrecv
  have hrun := vx_runV (e := e) (below := below) (meth := meth) (locs := locs) (cells := ce) (slots := sl) (g := F0 m pc ls ((As.reverse ++ .ref a :: S).map (ac_v g))) (rest := S.map (ac_v g)) (As := As.map (ac_v g)) (b := ac_r g a) ⟨X.1, X.2.1, X.2.2.1, X.2.2.2.2.2.1, hts⟩ (hM X.2.2.2.2.2.2.2.2.2.2.2) cw
    ⟨ac_P.blind g _ _, hrecv, fun U hU hW => ⟨rfl, by rw [hU]; exact hR, by rw [hU]; exact hA.later X.2.2.2.2.2.2.2.2.2.2.1 hW hS⟩⟩ rfl (by rw [List.length_map]; exact hn) hL.1
    (by simp [List.map_append, List.map_reverse, ac_v]) (lv_room (by rw [ac_sum]; exact Nat.le_of_ble_eq_true hw)) hd ⟨Nat.le_of_ble_eq_true hb1, Nat.le_of_ble_eq_true hb2⟩
  have cov : ∀ x y : Nat, covers (⟨f, t, x, y⟩ : ExceptionTableEntry) pc = true := fun x y => by unfold covers; simpa using hcv
  intro T hT XS
  rcases hrun T hT XS with ⟨v, st0, t1, T', L1, h0, X', hL1, e1, e2, ⟨⟨v', w', hv, hq', hR'⟩, hF⟩, st⟩ | ⟨q', st0, t1, T', L1, E, cel, h0, X', hL1, e1, e2, ⟨w', hE, hR', hF⟩, hcell, hcv', hcl, st⟩
  · cases hv
    obtain ⟨-, -, k3⟩ := vx_keep h0 e1 hS (A1 := ac_Z g) (fun _ _ z => z) (fun _ z => z) hL1 hF
    obtain ⟨t2, a1, b1⟩ := hq' p e s m args below meth c X T'.heap (locs ++ L1) ls (by rw [e1]; exact hR') k3 hL T' rfl X'
    rw [ac_lists] at a1
    exact ⟨t2, st t2 a1, b1⟩
  · obtain ⟨-, -, k3⟩ := vx_keep h0 e1 hS (A1 := ac_Z g) (fun _ _ z => z) (fun _ z => z) hL1 hF
    rcases hE with ⟨rfl, hq'⟩ | ⟨rfl, hq'⟩
    · have hsp : c.exceptionTable.toList = [] ++ (⟨f, t, h1, ct1⟩ : ExceptionTableEntry) :: [⟨f, t, h2, ct2⟩] := by rw [X.2.2.2.2.2.2.2.1, hh]; rfl
      obtain ⟨t2, a1, b1⟩ := vx_catch (own := I.1.cls) (name := "java/util/NoSuchElementException") (rest := S.map (ac_v g)) (ls := ls) X.2.2.2.2.2.1 [] _ _ hsp (fun z hz => nomatch hz) (cov _ _) hC1.1 (hts _ (List.mem_cons_of_mem _ hC1.2.1)) (va_Nw.use hC1.2.2.2.1 (hA.2.2.2.1.1 _ hC1.2.2.1 hC1.2.2.2.1 hC1.2.2.2.2)) (by rw [e1]; exact hcell) hcv' hcl (ac_hand (ls := ls) hH1 X (by rw [e1]; exact hR') k3 hL hq') T' rfl X'
      exact ⟨t2, st.trans a1, b1⟩
    · have hsp : c.exceptionTable.toList = [(⟨f, t, h1, ct1⟩ : ExceptionTableEntry)] ++ (⟨f, t, h2, ct2⟩ : ExceptionTableEntry) :: [] := by rw [X.2.2.2.2.2.2.2.1, hh]; rfl
      obtain ⟨t2, a1, b1⟩ := vx_catch (own := I.1.cls) (name := "java/lang/IllegalArgumentException") (rest := S.map (ac_v g)) (ls := ls) X.2.2.2.2.2.1 _ _ [] hsp (fun z hz => by
        rw [List.mem_singleton] at hz
        subst hz
        exact Or.inr ⟨hC1.1, _, hts _ (List.mem_cons_of_mem _ hC1.2.1), hA.2.2.2.1.2.2.2.1⟩) (cov _ _) hC2.1 (hts _ (List.mem_cons_of_mem _ hC2.2.1)) (va_Nw.use hC2.2.2.2.1 (hA.2.2.2.1.1 _ hC2.2.2.1 hC2.2.2.2.1 hC2.2.2.2.2)) (by rw [e1]; exact hcell) hcv' hcl (ac_hand (ls := ls) hH2 X (by rw [e1]; exact hR') k3 hL hq') T' rfl X'
      exact ⟨t2, st.trans a1, b1⟩
end AXH
