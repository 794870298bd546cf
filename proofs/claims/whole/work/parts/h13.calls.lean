/-! RULES OF CALLS: the callee's contract asks for what comes behind the call -/
/-- what is asked behind a call: at a return the next place; what is thrown goes on to the caller -/
def ac_Kn (g : ac_G) (I : ac_I) (d mc ms : Nat) (Q : ac_O → ac_W → Prop) (ce sl pc : Nat) (L : List (Option Value)) (S : List Value) : ac_O → ac_W → Prop := fun o w => match o with
  | .inl v => ac_X g I d mc ms Q ce sl pc L (v.toList ++ S) w
  | .inr E => Q (.inr E) w
/-- the words of a call that selects by the receiver -/
def ac_V (own : String) (idx : Nat) (I2 : ac_I) (n : Nat) : Prop := Cond.methodLink own idx I2.1 ∈ ac_tb ∧ Cond.instanceMethod I2.1 ∈ ac_tb ∧ Cond.selects I2.1.cls I2.1 I2.1 ∈ ac_tb ∧ Cond.initialized I2.1.cls ∈ ac_tb ∧ ac_code I2 ∈ ac_tb ∧ (I2.1.cls ≠ "java/lang/invoke/MethodHandle" ∧ I2.1.cls ≠ "java/lang/invoke/VarHandle" ∧ (parseMethodDescriptor I2.1.desc).map (fun d => d.parameters.length) = some n) ∧ I2.2.2.1 ≤ 40
def ac_Sx (own : String) (idx : Nat) (I2 : ac_I) (n : Nat) : Prop := Cond.methodLink own idx I2.1 ∈ ac_tb ∧ Cond.static I2.1 ∈ ac_tb ∧ Cond.initialized I2.1.cls ∈ ac_tb ∧ ac_code I2 ∈ ac_tb ∧ (I2.1.cls ≠ "java/lang/invoke/MethodHandle" ∧ I2.1.cls ≠ "java/lang/invoke/VarHandle" ∧ (parseMethodDescriptor I2.1.desc).map (fun d => d.parameters.length) = some n) ∧ I2.2.2.1 ≤ 40
theorem ac_good_wd {I I2 : ac_I} (h : ac_code I2 ∈ ac_tb) : GoodIn (ac_wd I) (ac_wd I2) := by
  intro w hw
  rcases List.mem_cons.mp hw with rfl | hw
  · exact ⟨List.mem_cons_of_mem _ h, good_of_word (ac_good h)⟩
  · exact ⟨List.mem_cons_of_mem _ hw, good_of_word (ac_good hw)⟩
theorem ac_good_c {I : ac_I} {w : Cond} {ws : List Cond} (h : w ∈ ac_tb) (ht : GoodIn (ac_wd I) ws) : GoodIn (ac_wd I) (w :: ws) := by
  intro x hx
  rcases List.mem_cons.mp hx with rfl | hx
  · exact ⟨List.mem_cons_of_mem _ h, good_of_word (ac_good h)⟩
  · exact ht x hx
theorem ac_lists {g : ac_G} (v : Option Value) (S : List Value) : (v.toList ++ S).map (ac_v g) = (v.map (ac_v g)).toList ++ S.map (ac_v g) := by cases v <;> rfl
theorem ac_rooms {d mc ms mc2 ms2 nL : Nat} (h : nL ≤ 40) : (ac_rm d mc2 ms2).frames + 1 ≤ (ac_rm (d + 1) mc ms).frames ∧ 8 + (nL + 11) + (ac_rm d mc2 ms2).locals ≤ (ac_rm (d + 1) mc ms).locals := by
  unfold ac_rm
  dsimp only
  omega
section AXC
variable {g : ac_G} {I I2 : ac_I} {d mc ms mc2 ms2 ce sl pc pc' n idx : Nat} {Q : ac_O → ac_W → Prop} {L : List (Option Value)} {S : List Value} {w : ac_W}
variable {ex : Bool} {N : Nat} {sh : Nat → ac_S} {σ : Nat → Nat → Int32} {τ : Nat → Nat → Int64} {a : Nat}
/-- from a run of the callee to what is asked of the caller -/
theorem ac_run {p : Program} {e : Env} {s : State} {m : MethodId} {args : Array Value} {below : List Frame} {meth : Method} {c : Code} {H : Heap} {locs : List Loc} {ls : Array Slot} {st0 : List Value} {av : Array Value} (hh : I.2.2.2.2 = []) (X : ac_C g I p s m args meth c) (hS : va_S (ac_Z g) s.heap H locs) (hL : ac_L g ls I.2.2.1 L) (hb1 : ce + mc2 ≤ mc) (hb2 : sl + ms2 ≤ ms)
    (hr : vx_Run p g.1 e (ac_rm (d + 1) mc ms) s m args below meth c H locs ce sl mc2 ms2 (F0 m pc ls st0) (S.map (ac_v g)) (ac_Q g (ac_Kn g I (d + 1) mc ms Q (ce + mc2) (sl + ms2) (pc + 3) L S) av) (ac_T g (ac_Kn g I (d + 1) mc ms Q (ce + mc2) (sl + ms2) (pc + 3) L S)) (ac_Z g)) :
    W p g.1 e (ac_rm (d + 1) mc ms) s m args below meth c H locs ce sl (vx_MQ below (ac_Q g Q) (ac_T g Q) args s mc ms (ac_Z g)) (F0 m pc ls st0) := by
  intro T hT XS
  rcases hr T hT XS with ⟨v, st₀, t, T', L1, h0, X', hL1, e1, e2, ⟨⟨v', w', hv, hq, hR'⟩, hF⟩, st⟩ | ⟨q, st₀, t, T', L1, E, cel, h0, X', hL1, e1, e2, ⟨w', hq, hR', hF⟩, hcell, hcv, hcl, st⟩
  · cases hv
    obtain ⟨-, -, k3⟩ := vx_keep h0 e1 hS (A1 := ac_Z g) (fun _ _ z => z) (fun _ z => z) hL1 hF
    obtain ⟨t2, a1, b1⟩ := hq p e s m args below meth c X T'.heap (locs ++ L1) ls (by rw [e1]; exact hR') k3 hL T' rfl X'
    rw [ac_lists] at a1
    exact ⟨t2, st t2 a1, b1⟩
  · obtain ⟨-, -, k3⟩ := vx_keep h0 e1 hS (A1 := ac_Z g) (fun _ _ z => z) (fun _ z => z) hL1 hF
    have hout : ∀ x ∈ c.exceptionTable.toList, covers x pc = false := by
      rw [X.2.2.2.2.2.2.2.1, hh]
      intro x hx
      cases hx
    obtain ⟨t2, a1, b1⟩ := vx_out (p := p) (l := g.1) (e := e) (R := ac_rm (d + 1) mc ms) (args := args) (below := below) (locs := locs ++ L1) (cells := ce + mc2) (slots := sl + ms2) (free := ac_Z g) (Qc := ac_Q g Q) (XC := ac_T g Q) (ls := ls) (rest := S.map (ac_v g)) (H := T'.heap) (ce := cel) (q := q) (E := E) hout X.2.2.2.2.1 (by rw [e1]; exact hcell) hcv hcl (fun t9 ht9 _ => ⟨w', hq, by rw [ht9, e1]; exact hR', k3.F ht9⟩) k3.2.2 hb1 hb2 T' rfl X'
    exact ⟨t2, st.trans a1, b1⟩
theorem ax_invV {ci : Nat} {tm : List (Option Value)} {As St : List Value} (hst : St = As.reverse ++ .ref a :: S) (hd : decode I.2.1 pc = .ok (.invokevirtual idx, 3)) (hV : ac_V I.1.cls idx I2 n) (hs : sh a = .inr (ci, tm)) (hci : (vwCl[ci]?).map (fun q => q.1) = some I2.1.cls) (ha : Nat.blt a N = true) (hn : As.length = n) (hh2 : I2.2.2.2.2 = []) (hh : I.2.2.2.2 = []) (hw : Nat.ble ((S.map fun v => v.category).sum) 8 = true) (hb1 : Nat.ble (ce + mc2) mc = true) (hb2 : Nat.ble (sl + ms2) ms = true)
    (hM : ac_M g I2 d mc2 ms2 (.ref a :: As) (ex, N, sh, σ, τ) (ac_Kn g I (d + 1) mc ms Q (ce + mc2) (sl + ms2) (pc + 3) L S)) : ac_X g I (d + 1) mc ms Q ce sl pc L St (ex, N, sh, σ, τ) := by
  subst hst
  intro p e s m args below meth c X H locs ls hR hS hL
  obtain ⟨v1, v2, v3, v4, v5, v6, v7⟩ := hV
  have hts := X.2.2.2.2.2.2.1
  have haN : a < N := Nat.blt_eq.mp ha
  have hw2 : ac_wd I2 = Cond.code I2.1 I2.2.1 I2.2.2.1 I2.2.2.2.1 :: ac_tb := by
    unfold ac_wd ac_code
    rw [hh2]
  have hG : GoodIn (ac_wd I) (wsV I.1.cls idx I2.1.cls I2.1 (ac_wd I2)) := ac_good_c v1 (ac_good_c v2 (ac_good_c v3 (ac_good_c v4 (ac_good_wd v5))))
  have cw := cwV (R := ac_rm (d + 1) mc ms) (rm := ac_rm d mc2 ms2) n hts hG hw2 rfl rfl ⟨rfl, v6⟩ (ac_rooms v7)
  obtain ⟨q, hq, hq1⟩ : ∃ q, vwCl[ci]? = some q ∧ q.1 = I2.1.cls := by
    cases hc : vwCl[ci]? with
    | none => rw [hc] at hci; cases hci
    | some q => rw [hc] at hci; exact ⟨q, rfl, Option.some.inj hci⟩
  have hrecv := va_recv X.2.2.2.2.2.2.2.2.2.1.1 hR.1 hq (ac_obj (g := g) (ex := ex) (σ := σ) (τ := τ) haN hs)
  rw [hq1] at hrecv
  have hrun := vx_runV (e := e) (below := below) (meth := meth) (locs := locs) (cells := ce) (slots := sl) (g := F0 m pc ls ((As.reverse ++ .ref a :: S).map (ac_v g))) (rest := S.map (ac_v g)) (As := As.map (ac_v g)) (b := ac_r g a) ⟨X.1, X.2.1, X.2.2.1, X.2.2.2.2.2.1, hts⟩ (hM X.2.2.2.2.2.2.2.2.2.2.2) cw
    ⟨ac_P.blind g _ _, hrecv, fun U hU hW => ⟨rfl, by rw [hU]; exact hR, by rw [hU]; exact X.2.2.2.2.2.2.2.2.2.1.later X.2.2.2.2.2.2.2.2.2.2.1 hW hS⟩⟩ rfl (by rw [List.length_map]; exact hn) hL.1
    (by simp [List.map_append, List.map_reverse, ac_v]) (lv_room (by rw [ac_sum]; exact Nat.le_of_ble_eq_true hw)) hd ⟨Nat.le_of_ble_eq_true hb1, Nat.le_of_ble_eq_true hb2⟩
  exact ac_run (S := S) hh X hS hL (Nat.le_of_ble_eq_true hb1) (Nat.le_of_ble_eq_true hb2) hrun
theorem ax_invS {As St : List Value} (hst : St = As.reverse ++ S) (hd : decode I.2.1 pc = .ok (.invokestatic idx, 3)) (hV : ac_Sx I.1.cls idx I2 n) (hn : As.length = n) (hh2 : I2.2.2.2.2 = []) (hh : I.2.2.2.2 = []) (hw : Nat.ble ((S.map fun v => v.category).sum) 8 = true) (hb1 : Nat.ble (ce + mc2) mc = true) (hb2 : Nat.ble (sl + ms2) ms = true)
    (hM : ac_M g I2 d mc2 ms2 As w (ac_Kn g I (d + 1) mc ms Q (ce + mc2) (sl + ms2) (pc + 3) L S)) : ac_X g I (d + 1) mc ms Q ce sl pc L St w := by
  subst hst
  intro p e s m args below meth c X H locs ls hR hS hL
  obtain ⟨v1, v2, v4, v5, v6, v7⟩ := hV
  have hts := X.2.2.2.2.2.2.1
  have hw2 : ac_wd I2 = Cond.code I2.1 I2.2.1 I2.2.2.1 I2.2.2.2.1 :: ac_tb := by
    unfold ac_wd ac_code
    rw [hh2]
  have hG : GoodIn (ac_wd I) (va_wsS I.1.cls idx I2.1 (ac_wd I2)) := ac_good_c v1 (ac_good_c v2 (ac_good_c v4 (ac_good_wd v5)))
  have cw := va_cwS (R := ac_rm (d + 1) mc ms) (rm := ac_rm d mc2 ms2) n hts hG hw2 rfl rfl v6 (ac_rooms v7)
  have hrun := vx_runS (e := e) (below := below) (meth := meth) (locs := locs) (cells := ce) (slots := sl) (g := F0 m pc ls ((As.reverse ++ S).map (ac_v g))) (rest := S.map (ac_v g)) (As := As.map (ac_v g)) ⟨X.1, X.2.1, X.2.2.1, X.2.2.2.2.2.1, hts⟩ (hM X.2.2.2.2.2.2.2.2.2.2.2) cw
    ⟨ac_P.blind g _ _, fun U hU hW => ⟨rfl, by rw [hU]; exact hR, by rw [hU]; exact X.2.2.2.2.2.2.2.2.2.1.later X.2.2.2.2.2.2.2.2.2.2.1 hW hS⟩⟩ rfl (by rw [List.length_map]; exact hn) hL.1
    (by simp [List.map_append, List.map_reverse]) (lv_room (by rw [ac_sum]; exact Nat.le_of_ble_eq_true hw)) hd ⟨Nat.le_of_ble_eq_true hb1, Nat.le_of_ble_eq_true hb2⟩
  exact ac_run (S := S) hh X hS hL (Nat.le_of_ble_eq_true hb1) (Nat.le_of_ble_eq_true hb2) hrun
theorem ax_V0 {ci : Nat} {tm : List (Option Value)} (hd : decode I.2.1 pc = .ok (.invokevirtual idx, 3)) (hV : ac_V I.1.cls idx I2 0) (hs : sh a = .inr (ci, tm)) (hci : (vwCl[ci]?).map (fun q => q.1) = some I2.1.cls) (ha : Nat.blt a N = true) (hh2 : I2.2.2.2.2 = []) (hh : I.2.2.2.2 = []) (hw : Nat.ble ((S.map fun v => v.category).sum) 8 = true) (hb1 : Nat.ble (ce + mc2) mc = true) (hb2 : Nat.ble (sl + ms2) ms = true) (hp : pc' = pc + 3)
    (hM : ac_M g I2 d mc2 ms2 (.ref a :: []) (ex, N, sh, σ, τ) (ac_Kn g I (d + 1) mc ms Q (ce + mc2) (sl + ms2) pc' L S)) : ac_X g I (d + 1) mc ms Q ce sl pc L (.ref a :: S) (ex, N, sh, σ, τ) := by
  subst hp
  exact ax_invV (As := []) rfl hd hV hs hci ha rfl hh2 hh hw hb1 hb2 hM
theorem ax_S0 (hd : decode I.2.1 pc = .ok (.invokestatic idx, 3)) (hV : ac_Sx I.1.cls idx I2 0) (hh2 : I2.2.2.2.2 = []) (hh : I.2.2.2.2 = []) (hw : Nat.ble ((S.map fun v => v.category).sum) 8 = true) (hb1 : Nat.ble (ce + mc2) mc = true) (hb2 : Nat.ble (sl + ms2) ms = true) (hp : pc' = pc + 3)
    (hM : ac_M g I2 d mc2 ms2 [] w (ac_Kn g I (d + 1) mc ms Q (ce + mc2) (sl + ms2) pc' L S)) : ac_X g I (d + 1) mc ms Q ce sl pc L (S) w := by
  subst hp
  exact ax_invS (As := []) rfl hd hV rfl hh2 hh hw hb1 hb2 hM
theorem ax_V1 {v0 : Value} {ci : Nat} {tm : List (Option Value)} (hd : decode I.2.1 pc = .ok (.invokevirtual idx, 3)) (hV : ac_V I.1.cls idx I2 1) (hs : sh a = .inr (ci, tm)) (hci : (vwCl[ci]?).map (fun q => q.1) = some I2.1.cls) (ha : Nat.blt a N = true) (hh2 : I2.2.2.2.2 = []) (hh : I.2.2.2.2 = []) (hw : Nat.ble ((S.map fun v => v.category).sum) 8 = true) (hb1 : Nat.ble (ce + mc2) mc = true) (hb2 : Nat.ble (sl + ms2) ms = true) (hp : pc' = pc + 3)
    (hM : ac_M g I2 d mc2 ms2 (.ref a :: [v0]) (ex, N, sh, σ, τ) (ac_Kn g I (d + 1) mc ms Q (ce + mc2) (sl + ms2) pc' L S)) : ac_X g I (d + 1) mc ms Q ce sl pc L (v0 :: .ref a :: S) (ex, N, sh, σ, τ) := by
  subst hp
  exact ax_invV (As := [v0]) rfl hd hV hs hci ha rfl hh2 hh hw hb1 hb2 hM
theorem ax_S1 {v0 : Value} (hd : decode I.2.1 pc = .ok (.invokestatic idx, 3)) (hV : ac_Sx I.1.cls idx I2 1) (hh2 : I2.2.2.2.2 = []) (hh : I.2.2.2.2 = []) (hw : Nat.ble ((S.map fun v => v.category).sum) 8 = true) (hb1 : Nat.ble (ce + mc2) mc = true) (hb2 : Nat.ble (sl + ms2) ms = true) (hp : pc' = pc + 3)
    (hM : ac_M g I2 d mc2 ms2 [v0] w (ac_Kn g I (d + 1) mc ms Q (ce + mc2) (sl + ms2) pc' L S)) : ac_X g I (d + 1) mc ms Q ce sl pc L (v0 :: S) w := by
  subst hp
  exact ax_invS (As := [v0]) rfl hd hV rfl hh2 hh hw hb1 hb2 hM
theorem ax_V2 {v0 v1 : Value} {ci : Nat} {tm : List (Option Value)} (hd : decode I.2.1 pc = .ok (.invokevirtual idx, 3)) (hV : ac_V I.1.cls idx I2 2) (hs : sh a = .inr (ci, tm)) (hci : (vwCl[ci]?).map (fun q => q.1) = some I2.1.cls) (ha : Nat.blt a N = true) (hh2 : I2.2.2.2.2 = []) (hh : I.2.2.2.2 = []) (hw : Nat.ble ((S.map fun v => v.category).sum) 8 = true) (hb1 : Nat.ble (ce + mc2) mc = true) (hb2 : Nat.ble (sl + ms2) ms = true) (hp : pc' = pc + 3)
    (hM : ac_M g I2 d mc2 ms2 (.ref a :: [v0, v1]) (ex, N, sh, σ, τ) (ac_Kn g I (d + 1) mc ms Q (ce + mc2) (sl + ms2) pc' L S)) : ac_X g I (d + 1) mc ms Q ce sl pc L (v1 :: v0 :: .ref a :: S) (ex, N, sh, σ, τ) := by
  subst hp
  exact ax_invV (As := [v0, v1]) rfl hd hV hs hci ha rfl hh2 hh hw hb1 hb2 hM
theorem ax_S2 {v0 v1 : Value} (hd : decode I.2.1 pc = .ok (.invokestatic idx, 3)) (hV : ac_Sx I.1.cls idx I2 2) (hh2 : I2.2.2.2.2 = []) (hh : I.2.2.2.2 = []) (hw : Nat.ble ((S.map fun v => v.category).sum) 8 = true) (hb1 : Nat.ble (ce + mc2) mc = true) (hb2 : Nat.ble (sl + ms2) ms = true) (hp : pc' = pc + 3)
    (hM : ac_M g I2 d mc2 ms2 [v0, v1] w (ac_Kn g I (d + 1) mc ms Q (ce + mc2) (sl + ms2) pc' L S)) : ac_X g I (d + 1) mc ms Q ce sl pc L (v1 :: v0 :: S) w := by
  subst hp
  exact ax_invS (As := [v0, v1]) rfl hd hV rfl hh2 hh hw hb1 hb2 hM
theorem ax_V3 {v0 v1 v2 : Value} {ci : Nat} {tm : List (Option Value)} (hd : decode I.2.1 pc = .ok (.invokevirtual idx, 3)) (hV : ac_V I.1.cls idx I2 3) (hs : sh a = .inr (ci, tm)) (hci : (vwCl[ci]?).map (fun q => q.1) = some I2.1.cls) (ha : Nat.blt a N = true) (hh2 : I2.2.2.2.2 = []) (hh : I.2.2.2.2 = []) (hw : Nat.ble ((S.map fun v => v.category).sum) 8 = true) (hb1 : Nat.ble (ce + mc2) mc = true) (hb2 : Nat.ble (sl + ms2) ms = true) (hp : pc' = pc + 3)
    (hM : ac_M g I2 d mc2 ms2 (.ref a :: [v0, v1, v2]) (ex, N, sh, σ, τ) (ac_Kn g I (d + 1) mc ms Q (ce + mc2) (sl + ms2) pc' L S)) : ac_X g I (d + 1) mc ms Q ce sl pc L (v2 :: v1 :: v0 :: .ref a :: S) (ex, N, sh, σ, τ) := by
  subst hp
  exact ax_invV (As := [v0, v1, v2]) rfl hd hV hs hci ha rfl hh2 hh hw hb1 hb2 hM
theorem ax_S3 {v0 v1 v2 : Value} (hd : decode I.2.1 pc = .ok (.invokestatic idx, 3)) (hV : ac_Sx I.1.cls idx I2 3) (hh2 : I2.2.2.2.2 = []) (hh : I.2.2.2.2 = []) (hw : Nat.ble ((S.map fun v => v.category).sum) 8 = true) (hb1 : Nat.ble (ce + mc2) mc = true) (hb2 : Nat.ble (sl + ms2) ms = true) (hp : pc' = pc + 3)
    (hM : ac_M g I2 d mc2 ms2 [v0, v1, v2] w (ac_Kn g I (d + 1) mc ms Q (ce + mc2) (sl + ms2) pc' L S)) : ac_X g I (d + 1) mc ms Q ce sl pc L (v2 :: v1 :: v0 :: S) w := by
  subst hp
  exact ax_invS (As := [v0, v1, v2]) rfl hd hV rfl hh2 hh hw hb1 hb2 hM
theorem ax_V4 {v0 v1 v2 v3 : Value} {ci : Nat} {tm : List (Option Value)} (hd : decode I.2.1 pc = .ok (.invokevirtual idx, 3)) (hV : ac_V I.1.cls idx I2 4) (hs : sh a = .inr (ci, tm)) (hci : (vwCl[ci]?).map (fun q => q.1) = some I2.1.cls) (ha : Nat.blt a N = true) (hh2 : I2.2.2.2.2 = []) (hh : I.2.2.2.2 = []) (hw : Nat.ble ((S.map fun v => v.category).sum) 8 = true) (hb1 : Nat.ble (ce + mc2) mc = true) (hb2 : Nat.ble (sl + ms2) ms = true) (hp : pc' = pc + 3)
    (hM : ac_M g I2 d mc2 ms2 (.ref a :: [v0, v1, v2, v3]) (ex, N, sh, σ, τ) (ac_Kn g I (d + 1) mc ms Q (ce + mc2) (sl + ms2) pc' L S)) : ac_X g I (d + 1) mc ms Q ce sl pc L (v3 :: v2 :: v1 :: v0 :: .ref a :: S) (ex, N, sh, σ, τ) := by
  subst hp
  exact ax_invV (As := [v0, v1, v2, v3]) rfl hd hV hs hci ha rfl hh2 hh hw hb1 hb2 hM
theorem ax_S4 {v0 v1 v2 v3 : Value} (hd : decode I.2.1 pc = .ok (.invokestatic idx, 3)) (hV : ac_Sx I.1.cls idx I2 4) (hh2 : I2.2.2.2.2 = []) (hh : I.2.2.2.2 = []) (hw : Nat.ble ((S.map fun v => v.category).sum) 8 = true) (hb1 : Nat.ble (ce + mc2) mc = true) (hb2 : Nat.ble (sl + ms2) ms = true) (hp : pc' = pc + 3)
    (hM : ac_M g I2 d mc2 ms2 [v0, v1, v2, v3] w (ac_Kn g I (d + 1) mc ms Q (ce + mc2) (sl + ms2) pc' L S)) : ac_X g I (d + 1) mc ms Q ce sl pc L (v3 :: v2 :: v1 :: v0 :: S) w := by
  subst hp
  exact ax_invS (As := [v0, v1, v2, v3]) rfl hd hV rfl hh2 hh hw hb1 hb2 hM
theorem ax_V5 {v0 v1 v2 v3 v4 : Value} {ci : Nat} {tm : List (Option Value)} (hd : decode I.2.1 pc = .ok (.invokevirtual idx, 3)) (hV : ac_V I.1.cls idx I2 5) (hs : sh a = .inr (ci, tm)) (hci : (vwCl[ci]?).map (fun q => q.1) = some I2.1.cls) (ha : Nat.blt a N = true) (hh2 : I2.2.2.2.2 = []) (hh : I.2.2.2.2 = []) (hw : Nat.ble ((S.map fun v => v.category).sum) 8 = true) (hb1 : Nat.ble (ce + mc2) mc = true) (hb2 : Nat.ble (sl + ms2) ms = true) (hp : pc' = pc + 3)
    (hM : ac_M g I2 d mc2 ms2 (.ref a :: [v0, v1, v2, v3, v4]) (ex, N, sh, σ, τ) (ac_Kn g I (d + 1) mc ms Q (ce + mc2) (sl + ms2) pc' L S)) : ac_X g I (d + 1) mc ms Q ce sl pc L (v4 :: v3 :: v2 :: v1 :: v0 :: .ref a :: S) (ex, N, sh, σ, τ) := by
  subst hp
  exact ax_invV (As := [v0, v1, v2, v3, v4]) rfl hd hV hs hci ha rfl hh2 hh hw hb1 hb2 hM
theorem ax_S5 {v0 v1 v2 v3 v4 : Value} (hd : decode I.2.1 pc = .ok (.invokestatic idx, 3)) (hV : ac_Sx I.1.cls idx I2 5) (hh2 : I2.2.2.2.2 = []) (hh : I.2.2.2.2 = []) (hw : Nat.ble ((S.map fun v => v.category).sum) 8 = true) (hb1 : Nat.ble (ce + mc2) mc = true) (hb2 : Nat.ble (sl + ms2) ms = true) (hp : pc' = pc + 3)
    (hM : ac_M g I2 d mc2 ms2 [v0, v1, v2, v3, v4] w (ac_Kn g I (d + 1) mc ms Q (ce + mc2) (sl + ms2) pc' L S)) : ac_X g I (d + 1) mc ms Q ce sl pc L (v4 :: v3 :: v2 :: v1 :: v0 :: S) w := by
  subst hp
  exact ax_invS (As := [v0, v1, v2, v3, v4]) rfl hd hV rfl hh2 hh hw hb1 hb2 hM
theorem ax_V6 {v0 v1 v2 v3 v4 v5 : Value} {ci : Nat} {tm : List (Option Value)} (hd : decode I.2.1 pc = .ok (.invokevirtual idx, 3)) (hV : ac_V I.1.cls idx I2 6) (hs : sh a = .inr (ci, tm)) (hci : (vwCl[ci]?).map (fun q => q.1) = some I2.1.cls) (ha : Nat.blt a N = true) (hh2 : I2.2.2.2.2 = []) (hh : I.2.2.2.2 = []) (hw : Nat.ble ((S.map fun v => v.category).sum) 8 = true) (hb1 : Nat.ble (ce + mc2) mc = true) (hb2 : Nat.ble (sl + ms2) ms = true) (hp : pc' = pc + 3)
    (hM : ac_M g I2 d mc2 ms2 (.ref a :: [v0, v1, v2, v3, v4, v5]) (ex, N, sh, σ, τ) (ac_Kn g I (d + 1) mc ms Q (ce + mc2) (sl + ms2) pc' L S)) : ac_X g I (d + 1) mc ms Q ce sl pc L (v5 :: v4 :: v3 :: v2 :: v1 :: v0 :: .ref a :: S) (ex, N, sh, σ, τ) := by
  subst hp
  exact ax_invV (As := [v0, v1, v2, v3, v4, v5]) rfl hd hV hs hci ha rfl hh2 hh hw hb1 hb2 hM
theorem ax_S6 {v0 v1 v2 v3 v4 v5 : Value} (hd : decode I.2.1 pc = .ok (.invokestatic idx, 3)) (hV : ac_Sx I.1.cls idx I2 6) (hh2 : I2.2.2.2.2 = []) (hh : I.2.2.2.2 = []) (hw : Nat.ble ((S.map fun v => v.category).sum) 8 = true) (hb1 : Nat.ble (ce + mc2) mc = true) (hb2 : Nat.ble (sl + ms2) ms = true) (hp : pc' = pc + 3)
    (hM : ac_M g I2 d mc2 ms2 [v0, v1, v2, v3, v4, v5] w (ac_Kn g I (d + 1) mc ms Q (ce + mc2) (sl + ms2) pc' L S)) : ac_X g I (d + 1) mc ms Q ce sl pc L (v5 :: v4 :: v3 :: v2 :: v1 :: v0 :: S) w := by
  subst hp
  exact ax_invS (As := [v0, v1, v2, v3, v4, v5]) rfl hd hV rfl hh2 hh hw hb1 hb2 hM
theorem ax_V7 {v0 v1 v2 v3 v4 v5 v6 : Value} {ci : Nat} {tm : List (Option Value)} (hd : decode I.2.1 pc = .ok (.invokevirtual idx, 3)) (hV : ac_V I.1.cls idx I2 7) (hs : sh a = .inr (ci, tm)) (hci : (vwCl[ci]?).map (fun q => q.1) = some I2.1.cls) (ha : Nat.blt a N = true) (hh2 : I2.2.2.2.2 = []) (hh : I.2.2.2.2 = []) (hw : Nat.ble ((S.map fun v => v.category).sum) 8 = true) (hb1 : Nat.ble (ce + mc2) mc = true) (hb2 : Nat.ble (sl + ms2) ms = true) (hp : pc' = pc + 3)
    (hM : ac_M g I2 d mc2 ms2 (.ref a :: [v0, v1, v2, v3, v4, v5, v6]) (ex, N, sh, σ, τ) (ac_Kn g I (d + 1) mc ms Q (ce + mc2) (sl + ms2) pc' L S)) : ac_X g I (d + 1) mc ms Q ce sl pc L (v6 :: v5 :: v4 :: v3 :: v2 :: v1 :: v0 :: .ref a :: S) (ex, N, sh, σ, τ) := by
  subst hp
  exact ax_invV (As := [v0, v1, v2, v3, v4, v5, v6]) rfl hd hV hs hci ha rfl hh2 hh hw hb1 hb2 hM
theorem ax_S7 {v0 v1 v2 v3 v4 v5 v6 : Value} (hd : decode I.2.1 pc = .ok (.invokestatic idx, 3)) (hV : ac_Sx I.1.cls idx I2 7) (hh2 : I2.2.2.2.2 = []) (hh : I.2.2.2.2 = []) (hw : Nat.ble ((S.map fun v => v.category).sum) 8 = true) (hb1 : Nat.ble (ce + mc2) mc = true) (hb2 : Nat.ble (sl + ms2) ms = true) (hp : pc' = pc + 3)
    (hM : ac_M g I2 d mc2 ms2 [v0, v1, v2, v3, v4, v5, v6] w (ac_Kn g I (d + 1) mc ms Q (ce + mc2) (sl + ms2) pc' L S)) : ac_X g I (d + 1) mc ms Q ce sl pc L (v6 :: v5 :: v4 :: v3 :: v2 :: v1 :: v0 :: S) w := by
  subst hp
  exact ax_invS (As := [v0, v1, v2, v3, v4, v5, v6]) rfl hd hV rfl hh2 hh hw hb1 hb2 hM
theorem ax_V8 {v0 v1 v2 v3 v4 v5 v6 v7 : Value} {ci : Nat} {tm : List (Option Value)} (hd : decode I.2.1 pc = .ok (.invokevirtual idx, 3)) (hV : ac_V I.1.cls idx I2 8) (hs : sh a = .inr (ci, tm)) (hci : (vwCl[ci]?).map (fun q => q.1) = some I2.1.cls) (ha : Nat.blt a N = true) (hh2 : I2.2.2.2.2 = []) (hh : I.2.2.2.2 = []) (hw : Nat.ble ((S.map fun v => v.category).sum) 8 = true) (hb1 : Nat.ble (ce + mc2) mc = true) (hb2 : Nat.ble (sl + ms2) ms = true) (hp : pc' = pc + 3)
    (hM : ac_M g I2 d mc2 ms2 (.ref a :: [v0, v1, v2, v3, v4, v5, v6, v7]) (ex, N, sh, σ, τ) (ac_Kn g I (d + 1) mc ms Q (ce + mc2) (sl + ms2) pc' L S)) : ac_X g I (d + 1) mc ms Q ce sl pc L (v7 :: v6 :: v5 :: v4 :: v3 :: v2 :: v1 :: v0 :: .ref a :: S) (ex, N, sh, σ, τ) := by
  subst hp
  exact ax_invV (As := [v0, v1, v2, v3, v4, v5, v6, v7]) rfl hd hV hs hci ha rfl hh2 hh hw hb1 hb2 hM
theorem ax_S8 {v0 v1 v2 v3 v4 v5 v6 v7 : Value} (hd : decode I.2.1 pc = .ok (.invokestatic idx, 3)) (hV : ac_Sx I.1.cls idx I2 8) (hh2 : I2.2.2.2.2 = []) (hh : I.2.2.2.2 = []) (hw : Nat.ble ((S.map fun v => v.category).sum) 8 = true) (hb1 : Nat.ble (ce + mc2) mc = true) (hb2 : Nat.ble (sl + ms2) ms = true) (hp : pc' = pc + 3)
    (hM : ac_M g I2 d mc2 ms2 [v0, v1, v2, v3, v4, v5, v6, v7] w (ac_Kn g I (d + 1) mc ms Q (ce + mc2) (sl + ms2) pc' L S)) : ac_X g I (d + 1) mc ms Q ce sl pc L (v7 :: v6 :: v5 :: v4 :: v3 :: v2 :: v1 :: v0 :: S) w := by
  subst hp
  exact ax_invS (As := [v0, v1, v2, v3, v4, v5, v6, v7]) rfl hd hV rfl hh2 hh hw hb1 hb2 hM
end AXC
