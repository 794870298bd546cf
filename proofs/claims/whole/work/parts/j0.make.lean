/-! RULES OF MAKING: cells are made in the order of their numbers -/
section AXK
variable {g : ac_G} {I I2 : ac_I} {d mc ms mc2 ms2 ce sl pc pc' n idx : Nat} {Q : ac_O → ac_W → Prop} {L : List (Option Value)} {S : List Value} {w : ac_W}
variable {N : Nat} {sh : Nat → ac_S} {σ : Nat → Nat → Int32} {τ : Nat → Nat → Int64} {a : Nat}
theorem ac_R.grow {N' : Nat} {H H1 : Heap} (hR : ac_R g (true, N, sh, σ, τ) H) (hn : N ≤ N') (hle : N' ≤ 1000000) (hkeep : ∀ q : Nat, q < H.size → H1[q]? = H[q]?) (hsz : H1.size = H.size + (N' - N)) (hnew : ∀ b, N ≤ b → b < N' → va_at g.2.2.2.1 vwCl (ac_c g (true, N', sh, σ, τ) b) H1) : ac_R g (true, N', sh, σ, τ) H1 := by
  have hx : H.size = g.2.1 + N := hR.2.2.2 rfl
  refine ⟨fun k q hq => ?_, hle, by rw [hsz, hx]; show g.2.1 + N' ≤ _; omega, fun _ => by rw [hsz, hx]; show _ = g.2.1 + N'; omega⟩
  obtain ⟨hk, rfl⟩ := ac_ws_some hq
  by_cases c : k < N
  · have h0 := hR.1 k _ (ac_ws_at (w := (true, N, sh, σ, τ)) c)
    exact h0.kept (hkeep _ h0.lt)
  · exact hnew k (by omega) hk
theorem ac_at0 {H : Heap} {b : Nat} (hR : ac_R g (true, N, sh, σ, τ) H) (hb : N ≤ b) (hb2 : b < 1000000) : ac_r g b = H.size + (b - N) := by
  rw [ac_r_lt hb2, hR.2.2.2 rfl]
  show g.2.1 + b = g.2.1 + N + (b - N)
  omega
theorem ax_newI {b n : Nat} {v : Int32} (hd : decode I.2.1 pc = .ok (.newarray .int, 2)) (hA : Cond.arrayClass .int ∈ ac_tb) (hs : sh N = .inl (0, n, b)) (hz : σ N = fun _ => 0) (hv : v = Int32.ofNat n) (hnn : Nat.ble n 10000 = true) (hN : Nat.blt N 999999 = true) (hc : Nat.ble (ce + 1) mc = true) (hsl : Nat.ble (sl + n) ms = true) (hp : pc' = pc + 2)
    (kk : ac_X g I d mc ms Q (ce + 1) (sl + n) pc' L (.ref N :: S) (true, N + 1, sh, σ, τ)) : ac_X g I d mc ms Q ce sl pc L (.int v :: S) (true, N, sh, σ, τ) := by
  subst hp
  intro p e s m args below meth c X H locs ls hR hS hL
  have hn' : n ≤ 10000 := Nat.le_of_ble_eq_true hnn
  have hN' : N < 999999 := Nat.blt_eq.mp hN
  have hx : H.size = g.2.1 + N := hR.2.2.2 rfl
  have hvn : v = nI n := hv
  refine va_newaK (atype := .int) (n := v) (N := n) (rest := S.map (ac_v g)) X.1 X.2.1 (X.2.2.2.2.2.2.1 _ (List.mem_cons_of_mem _ hA)) rfl hd rfl (by rw [hvn]; exact nI_pos (by omega)) (by rw [hvn]; exact cl_nI (by omega)) (by show n * 4 ≤ 536870912; omega) (Nat.le_of_ble_eq_true hc) (Nat.le_of_ble_eq_true hsl) rfl (fun H1 cA e1 z1 o1 hAr hNm => ?_)
  have hK := X.2.2.2.2.2.2.2.2.2.1.1.2 0 _ (show (ac_ty g)[0]? = some (g.2.2.2.2.1 0, .int) from rfl)
  have ecA : cA = g.2.2.2.2.1 0 := Option.some.inj (hNm.symm.trans hK.2)
  have e0 := ac_at0 hR (Nat.le_refl N) (show N < 1000000 by omega)
  rw [Nat.sub_self, Nat.add_zero] at e0
  have hR1 : ac_R g (true, N + 1, sh, σ, τ) H1 := ac_R.grow hR (Nat.le_succ N) (by omega) o1 (by rw [z1]; omega) (fun b1 h1 h2 => by
    have : b1 = N := by omega
    subst this
    unfold va_at ac_c ac_e
    dsimp only
    rw [hs, hz, e0]
    rw [ecA] at e1
    exact e1)
  have h := kk p e s m args below meth c X H1 locs ls hR1 ⟨Nat.le_trans hS.1 (by omega), fun q h1 h2 => (o1 q (Nat.lt_of_lt_of_le h1 hS.1)).trans (hS.2.1 q h1 h2), hS.2.2⟩ hL
  rw [← e0]
  exact h
theorem ax_newB {b n : Nat} {v : Int32} (hd : decode I.2.1 pc = .ok (.newarray .byte, 2)) (hA : Cond.arrayClass .byte ∈ ac_tb) (hs : sh N = .inl (1, n, b)) (hz : σ N = fun _ => 0) (hv : v = Int32.ofNat n) (hnn : Nat.ble n 10000 = true) (hN : Nat.blt N 999999 = true) (hc : Nat.ble (ce + 1) mc = true) (hsl : Nat.ble (sl + n) ms = true) (hp : pc' = pc + 2)
    (kk : ac_X g I d mc ms Q (ce + 1) (sl + n) pc' L (.ref N :: S) (true, N + 1, sh, σ, τ)) : ac_X g I d mc ms Q ce sl pc L (.int v :: S) (true, N, sh, σ, τ) := by
  subst hp
  intro p e s m args below meth c X H locs ls hR hS hL
  have hn' : n ≤ 10000 := Nat.le_of_ble_eq_true hnn
  have hN' : N < 999999 := Nat.blt_eq.mp hN
  have hx : H.size = g.2.1 + N := hR.2.2.2 rfl
  have hvn : v = nI n := hv
  refine va_newaK (atype := .byte) (n := v) (N := n) (rest := S.map (ac_v g)) X.1 X.2.1 (X.2.2.2.2.2.2.1 _ (List.mem_cons_of_mem _ hA)) rfl hd rfl (by rw [hvn]; exact nI_pos (by omega)) (by rw [hvn]; exact cl_nI (by omega)) (by show n * 1 ≤ 536870912; omega) (Nat.le_of_ble_eq_true hc) (Nat.le_of_ble_eq_true hsl) rfl (fun H1 cA e1 z1 o1 hAr hNm => ?_)
  have hK := X.2.2.2.2.2.2.2.2.2.1.1.2 1 _ (show (ac_ty g)[1]? = some (g.2.2.2.2.1 1, .byte) from rfl)
  have ecA : cA = g.2.2.2.2.1 1 := Option.some.inj (hNm.symm.trans hK.2)
  have e0 := ac_at0 hR (Nat.le_refl N) (show N < 1000000 by omega)
  rw [Nat.sub_self, Nat.add_zero] at e0
  have hR1 : ac_R g (true, N + 1, sh, σ, τ) H1 := ac_R.grow hR (Nat.le_succ N) (by omega) o1 (by rw [z1]; omega) (fun b1 h1 h2 => by
    have : b1 = N := by omega
    subst this
    unfold va_at ac_c ac_e
    dsimp only
    rw [hs, hz, e0]
    rw [ecA] at e1
    exact e1)
  have h := kk p e s m args below meth c X H1 locs ls hR1 ⟨Nat.le_trans hS.1 (by omega), fun q h1 h2 => (o1 q (Nat.lt_of_lt_of_le h1 hS.1)).trans (hS.2.1 q h1 h2), hS.2.2⟩ hL
  rw [← e0]
  exact h
theorem ax_newL {b n : Nat} {v : Int32} (hd : decode I.2.1 pc = .ok (.newarray .long, 2)) (hA : Cond.arrayClass .long ∈ ac_tb) (hs : sh N = .inl (2, n, b)) (hz : τ N = fun _ => 0) (hv : v = Int32.ofNat n) (hnn : Nat.ble n 10000 = true) (hN : Nat.blt N 999999 = true) (hc : Nat.ble (ce + 1) mc = true) (hsl : Nat.ble (sl + n) ms = true) (hp : pc' = pc + 2)
    (kk : ac_X g I d mc ms Q (ce + 1) (sl + n) pc' L (.ref N :: S) (true, N + 1, sh, σ, τ)) : ac_X g I d mc ms Q ce sl pc L (.int v :: S) (true, N, sh, σ, τ) := by
  subst hp
  intro p e s m args below meth c X H locs ls hR hS hL
  have hn' : n ≤ 10000 := Nat.le_of_ble_eq_true hnn
  have hN' : N < 999999 := Nat.blt_eq.mp hN
  have hx : H.size = g.2.1 + N := hR.2.2.2 rfl
  have hvn : v = nI n := hv
  refine va_newaK (atype := .long) (n := v) (N := n) (rest := S.map (ac_v g)) X.1 X.2.1 (X.2.2.2.2.2.2.1 _ (List.mem_cons_of_mem _ hA)) rfl hd rfl (by rw [hvn]; exact nI_pos (by omega)) (by rw [hvn]; exact cl_nI (by omega)) (by show n * 8 ≤ 536870912; omega) (Nat.le_of_ble_eq_true hc) (Nat.le_of_ble_eq_true hsl) rfl (fun H1 cA e1 z1 o1 hAr hNm => ?_)
  have hK := X.2.2.2.2.2.2.2.2.2.1.1.2 2 _ (show (ac_ty g)[2]? = some (g.2.2.2.2.1 2, .long) from rfl)
  have ecA : cA = g.2.2.2.2.1 2 := Option.some.inj (hNm.symm.trans hK.2)
  have e0 := ac_at0 hR (Nat.le_refl N) (show N < 1000000 by omega)
  rw [Nat.sub_self, Nat.add_zero] at e0
  have hR1 : ac_R g (true, N + 1, sh, σ, τ) H1 := ac_R.grow hR (Nat.le_succ N) (by omega) o1 (by rw [z1]; omega) (fun b1 h1 h2 => by
    have : b1 = N := by omega
    subst this
    unfold va_at ac_c ac_e
    dsimp only
    rw [hs, hz, e0]
    rw [ecA] at e1
    exact e1)
  have h := kk p e s m args below meth c X H1 locs ls hR1 ⟨Nat.le_trans hS.1 (by omega), fun q h1 h2 => (o1 q (Nat.lt_of_lt_of_le h1 hS.1)).trans (hS.2.1 q h1 h2), hS.2.2⟩ hL
  rw [← e0]
  exact h
/-- an object as it is born -/
def ac_No (own : String) (idx ci : Nat) (tm : List (Option Value)) : Prop := ∃ (C : String) (T : u_T) (M : Nat) (tyf : Nat → FieldType), vwCl[ci]? = some (C, T, M) ∧ Cond.classLink own idx C ∈ ac_tb ∧ Cond.instantiable C M ∈ ac_tb ∧ Cond.initialized C ∈ ac_tb ∧ (∀ w ∈ u_ws C T M, w ∈ ac_tb) ∧ (∀ k, k < M → parseFieldDescriptor (T k).2.2.1 = some (tyf k)) ∧ (∀ k, k < M → (tm[k]? = some none ∧ defaultValue (tyf k) = .int 0) ∨ (tm[k]? = some (some .null) ∧ defaultValue (tyf k) = .null)) ∧ tm.length = M
theorem ax_newO {ci : Nat} {tm : List (Option Value)} (hd : decode I.2.1 pc = .ok (.new idx, 3)) (hO : ac_No I.1.cls idx ci tm) (hs : sh N = .inr (ci, tm)) (hz : σ N = fun _ => 0) (hN : Nat.blt N 999999 = true) (hc : Nat.ble (ce + 1) mc = true) (hsl : Nat.ble (sl + tm.length) ms = true) (hp : pc' = pc + 3)
    (kk : ac_X g I d mc ms Q (ce + 1) (sl + tm.length) pc' L (.ref N :: S) (true, N + 1, sh, σ, τ)) : ac_X g I d mc ms Q ce sl pc L S (true, N, sh, σ, τ) := by
  subst hp
  intro p e s m args below meth c X H locs ls hR hS hL
  obtain ⟨C, T, M, tyf, h1, h2, h3, h4, h5, h6, h7, h8⟩ := hO
  subst h8
  have hN' : N < 999999 := Nat.blt_eq.mp hN
  have hx : H.size = g.2.1 + N := hR.2.2.2 rfl
  have hts : ∀ w ∈ ac_tb, w.before args s = true := fun w hw => X.2.2.2.2.2.2.1 w (List.mem_cons_of_mem _ hw)
  have hKn := X.2.2.2.2.2.2.2.2.2.1.1.1 ci _ h1
  refine W.newcK X.1 X.2.1 X.2.2.2.2.2.1 (hts _ h2) (hts _ h3) (hts _ h4) rfl hd (Nat.le_of_ble_eq_true hc) (Nat.le_of_ble_eq_true hsl) hKn.2.1 rfl (fun H1 kC hkC e1 z1 o1 => ?_)
  have e0 := ac_at0 hR (Nat.le_refl N) (show N < 1000000 by omega)
  rw [Nat.sub_self, Nat.add_zero] at e0
  have hR1 : ac_R g (true, N + 1, sh, σ, τ) H1 := ac_R.grow hR (Nat.le_succ N) (by omega) o1 (by rw [z1]; omega) (fun b1 q1 q2 => by
    have : b1 = N := by omega
    subst this
    unfold va_at ac_c ac_e
    dsimp only
    rw [hs, hz, e0]
    refine ⟨_, h1, (u_born tyf hts h5 hKn hkC e1 h6).to (fun j hj => ?_)⟩
    show defaultValue (tyf j) = vp_V (ac_fs g (fun _ => 0) 0 tm) j
    unfold vp_V
    rw [List.getD_eq_getElem?_getD]
    rcases h7 j hj with ⟨a1, a2⟩ | ⟨a1, a2⟩
    · rw [ac_fs_int g _ tm 0 j a1, a2]; rfl
    · rw [ac_fs_ref g _ tm 0 j _ a1, a2]; rfl)
  have h := kk p e s m args below meth c X H1 locs ls hR1 ⟨Nat.le_trans hS.1 (by omega), fun q h1 h2 => (o1 q (Nat.lt_of_lt_of_le h1 hS.1)).trans (hS.2.1 q h1 h2), hS.2.2⟩ hL
  rw [List.map_cons] at h
  show W p g.1 e _ s m args below meth c H1 locs _ _ _ (F0 m (pc + 3) ls (.ref H.size :: S.map (ac_v g)))
  rw [← e0]
  exact h
theorem ax_obj0 (hd : decode I.2.1 pc = .ok (.invokespecial idx, 3)) (h1 : Cond.methodLink I.1.cls idx Lib.objectInit ∈ ac_tb) (h2 : Cond.instanceMethod Lib.objectInit ∈ ac_tb) (h3 : Cond.code Lib.objectInit ⟨#[0xb1]⟩ 1 none ∈ ac_tb) (hw : Nat.ble ((S.map fun v => v.category).sum) 8 = true) (hp : pc' = pc + 3)
    (kk : ac_X g I d mc ms Q ce sl pc' L S w) : ac_X g I d mc ms Q ce sl pc L (.ref a :: S) w := by
  subst hp
  intro p e s m args below meth c X H locs ls hR hS hL
  have hts : ∀ w ∈ ac_tb, w.before args s = true := fun w hw => X.2.2.2.2.2.2.1 w (List.mem_cons_of_mem _ hw)
  refine W.objInit X.1 X.2.1 X.2.2.2.2.2.1 (hts _ h1) (hts _ h2) (hts _ h3) rfl (by rw [X.2.2.1]; exact hL.1) (a := ac_r g a) (rest := S.map (ac_v g)) rfl hd (by show 1 ≤ d + 12; omega) ?_ (kk p e s m args below meth c X H locs ls hR hS hL)
  rw [ac_sum]
  have := Nat.le_of_ble_eq_true hw
  show 2 * 0 + _ + 12 ≤ 64 * d + 256
  omega
/-- the words of a constructor's call -/
def ac_Ix (own : String) (idx : Nat) (I2 : ac_I) (n : Nat) : Prop := I2.1.name = "<init>" ∧ I2.2.2.2.1 = none ∧ Cond.instanceMethod I2.1 ∈ ac_tb ∧ Cond.initialized I2.1.cls ∈ ac_tb ∧ ac_code I2 ∈ ac_tb ∧ (I2.1.cls ≠ "java/lang/invoke/MethodHandle" ∧ I2.1.cls ≠ "java/lang/invoke/VarHandle" ∧ (parseMethodDescriptor I2.1.desc).map (fun d => d.parameters.length) = some n) ∧ I2.2.2.1 ≤ 40
theorem ac_runM {p : Program} {e : Env} {s : State} {m : MethodId} {args : Array Value} {below : List Frame} {meth : Method} {c : Code} {H : Heap} {locs : List Loc} {ls : Array Slot} {st0 : List Value} {av : Array Value} (X : ac_C g I p s m args meth c) (hS : va_S (ac_Z g) s.heap H locs) (hL : ac_L g ls I.2.2.1 L)
    (hr : va_Run p g.1 e (ac_rm (d + 1) mc ms) s m args below meth c H locs ce sl mc2 ms2 (F0 m pc ls st0) (S.map (ac_v g)) (ac_Q g (ac_Kn g I (d + 1) mc ms Q (ce + mc2) (sl + ms2) (pc + 3) L S) av) (ac_Z g)) :
    W p g.1 e (ac_rm (d + 1) mc ms) s m args below meth c H locs ce sl (vx_MQ below (ac_Q g Q) (ac_T g Q) args s mc ms (ac_Z g)) (F0 m pc ls st0) := by
  intro T hT XS
  obtain ⟨v, st₀, t, T', L1, h0, X', hL1, e1, e2, ⟨⟨v', w', hv, hq, hR'⟩, hF⟩, st⟩ := hr T hT XS
  cases hv
  obtain ⟨-, -, k3⟩ := vx_keep h0 e1 hS (A1 := ac_Z g) (fun _ _ z => z) (fun _ z => z) hL1 hF
  obtain ⟨t2, a1, b1⟩ := hq p e s m args below meth c X T'.heap (locs ++ L1) ls (by rw [e1]; exact hR') k3 hL T' rfl X'
  rw [ac_lists] at a1
  exact ⟨t2, st t2 a1, b1⟩
theorem ax_invI {As St : List Value} (hst : St = As.reverse ++ .ref a :: S) (hd : decode I.2.1 pc = .ok (.invokespecial idx, 3)) (hl : Cond.methodLink I.1.cls idx I2.1 ∈ ac_tb) (hV : ac_Ix I.1.cls idx I2 n) (hn : As.length = n) (hh2 : I2.2.2.2.2 = []) (hE : ∀ E w, ¬ Q (.inr E) w) (hw : Nat.ble ((S.map fun v => v.category).sum) 8 = true) (hb1 : Nat.ble (ce + mc2) mc = true) (hb2 : Nat.ble (sl + ms2) ms = true)
    (hM : ac_M g I2 d mc2 ms2 (.ref a :: As) w (ac_Kn g I (d + 1) mc ms Q (ce + mc2) (sl + ms2) (pc + 3) L S)) : ac_X g I (d + 1) mc ms Q ce sl pc L St w := by
  subst hst
  intro p e s m args below meth c X H locs ls hR hS hL
  obtain ⟨v1, v2, v3, v4, v5, v6, v7⟩ := hV
  have hts := X.2.2.2.2.2.2.1
  have ht : ∀ w ∈ ac_tb, w.before args s = true := fun w hw => hts w (List.mem_cons_of_mem _ hw)
  have hw2 : ac_wd I2 = Cond.code I2.1 I2.2.1 I2.2.2.1 none :: ac_tb := by
    unfold ac_wd ac_code
    rw [hh2, v2]
  have cw := callB_of (R := ac_rm (d + 1) mc ms) (rm := ac_rm d mc2 ms2) (mc := mc2) (ms := ms2) (y := I2.1) n hts (ac_good_wd (I := I) v5) hw2 rfl rfl (ht _ v4) (ht _ hl) v6 (ac_rooms v7)
  have hrun := va_runI (e := e) (below := below) (meth := meth) (locs := locs) (cells := ce) (slots := sl) (g := F0 m pc ls ((As.reverse ++ .ref a :: S).map (ac_v g))) (rest := S.map (ac_v g)) (As := As.map (ac_v g)) (b := ac_r g a) ⟨X.1, X.2.1, X.2.2.1, X.2.2.2.2.2.1, hts⟩ (hM.met X.2.2.2.2.2.2.2.2.2.2.2 (fun E w h => hE E w h)) ⟨cw, v1, ht _ v3⟩
    ⟨ac_P.blind g _ _, fun U hU hW => ⟨rfl, by rw [hU]; exact hR, by rw [hU]; exact X.2.2.2.2.2.2.2.2.2.1.later X.2.2.2.2.2.2.2.2.2.2.1 hW hS⟩⟩ rfl (by rw [List.length_map]; exact hn) hL.1
    (by simp [List.map_append, List.map_reverse, ac_v]) (lv_room (by rw [ac_sum]; exact Nat.le_of_ble_eq_true hw)) hd ⟨Nat.le_of_ble_eq_true hb1, Nat.le_of_ble_eq_true hb2⟩
  exact ac_runM (S := S) X hS hL hrun
theorem ax_invIN {host : String} {As St : List Value} (hst : St = As.reverse ++ .ref a :: S) (hd : decode I.2.1 pc = .ok (.invokespecial idx, 3)) (hl : Cond.methodLinkNest I.1.cls idx I2.1 host ∈ lw_tbl) (hV : ac_Ix I.1.cls idx I2 n) (hn : As.length = n) (hh2 : I2.2.2.2.2 = []) (hE : ∀ E w, ¬ Q (.inr E) w) (hw : Nat.ble ((S.map fun v => v.category).sum) 8 = true) (hb1 : Nat.ble (ce + mc2) mc = true) (hb2 : Nat.ble (sl + ms2) ms = true)
    (hM : ac_M g I2 d mc2 ms2 (.ref a :: As) w (ac_Kn g I (d + 1) mc ms Q (ce + mc2) (sl + ms2) (pc + 3) L S)) : ac_X g I (d + 1) mc ms Q ce sl pc L St w := by
  subst hst
  intro p e s m args below meth c X H locs ls hR hS hL
  obtain ⟨v1, v2, v3, v4, v5, v6, v7⟩ := hV
  have hts := X.2.2.2.2.2.2.1
  have ht : ∀ w ∈ ac_tb, w.before args s = true := fun w hw => hts w (List.mem_cons_of_mem _ hw)
  have hw2 : ac_wd I2 = Cond.code I2.1 I2.2.1 I2.2.2.1 none :: ac_tb := by
    unfold ac_wd ac_code
    rw [hh2, v2]
  have cw := va_cnB (R := ac_rm (d + 1) mc ms) (rm := ac_rm d mc2 ms2) (mc := mc2) (ms := ms2) (y := I2.1) n hts (ac_good_wd (I := I) v5) hw2 rfl rfl (X.2.2.2.2.2.2.2.2.2.1.2.2.2.1.2.1 _ _ _ _ hl) (ht _ v4) v6 (ac_rooms v7)
  have hrun := va_runIN (e := e) (below := below) (meth := meth) (locs := locs) (cells := ce) (slots := sl) (g := F0 m pc ls ((As.reverse ++ .ref a :: S).map (ac_v g))) (rest := S.map (ac_v g)) (As := As.map (ac_v g)) (b := ac_r g a) ⟨X.1, X.2.1, X.2.2.1, X.2.2.2.2.2.1, hts⟩ (hM.met X.2.2.2.2.2.2.2.2.2.2.2 (fun E w h => hE E w h)) ⟨cw, v1, ht _ v3⟩
    ⟨ac_P.blind g _ _, fun U hU hW => ⟨rfl, by rw [hU]; exact hR, by rw [hU]; exact X.2.2.2.2.2.2.2.2.2.1.later X.2.2.2.2.2.2.2.2.2.2.1 hW hS⟩⟩ rfl (by rw [List.length_map]; exact hn) hL.1
    (by simp [List.map_append, List.map_reverse, ac_v]) (lv_room (by rw [ac_sum]; exact Nat.le_of_ble_eq_true hw)) hd ⟨Nat.le_of_ble_eq_true hb1, Nat.le_of_ble_eq_true hb2⟩
  exact ac_runM (S := S) X hS hL hrun
end AXK
/-! new int[n][k] -/
section AXJ
variable {g : ac_G} {I : ac_I} {d mc ms ce sl pc pc' idx : Nat} {Q : ac_O → ac_W → Prop} {L : List (Option Value)} {S : List Value}
variable {N : Nat} {sh : Nat → ac_S} {σ : Nat → Nat → Int32} {τ : Nat → Nat → Int64}
theorem ax_mna {n k b : Nat} {vn vk : Int32} (hd : decode I.2.1 pc = .ok (.multianewarray idx 2, 4)) (h1 : Cond.classLink I.1.cls idx "[[I" ∈ ac_tb) (h3 : Cond.arrayClass .int ∈ ac_tb) (hs : sh N = .inl (3, n, N + 1)) (hr : ∀ j, j < n → sh (N + 1 + j) = .inl (0, k, b)) (hz : ∀ j, j < n → σ (N + 1 + j) = fun _ => 0) (hvn : vn = Int32.ofNat n) (hvk : vk = Int32.ofNat k) (hnn : Nat.ble n 10000 = true) (hkn : Nat.ble k 10000 = true) (hN : Nat.blt N 900000 = true)
    (hc : Nat.ble (ce + 1 + n) mc = true) (hsl : Nat.ble (sl + n + n * k) ms = true) (hp : pc' = pc + 4)
    (kk : ac_X g I d mc ms Q (ce + 1 + n) (sl + n + n * k) pc' L (.ref N :: S) (true, N + 1 + n, sh, σ, τ)) : ac_X g I d mc ms Q ce sl pc L (.int vk :: .int vn :: S) (true, N, sh, σ, τ) := by
  subst hp
  intro p e s m args below meth c X H locs ls hR hS hL
  have hn' : n ≤ 10000 := Nat.le_of_ble_eq_true hnn
  have hk' : k ≤ 10000 := Nat.le_of_ble_eq_true hkn
  have hN' : N < 900000 := Nat.blt_eq.mp hN
  have hc' := Nat.le_of_ble_eq_true hc
  have hsl' := Nat.le_of_ble_eq_true hsl
  have hx : H.size = g.2.1 + N := hR.2.2.2 rfl
  have en : vn = nI n := hvn
  have ek : vk = nI k := hvk
  have cn : vn.toNatClampNeg = n := by rw [en]; exact cl_nI (by omega)
  have ck' : vk.toNatClampNeg = k := by rw [ek]; exact cl_nI (by omega)
  have ht : ∀ w ∈ ac_tb, w.before args s = true := fun w hw => X.2.2.2.2.2.2.1 w (List.mem_cons_of_mem _ hw)
  have hA := X.2.2.2.2.2.2.2.2.2.1
  have hover : (Cond.arrayOver (.array .int)).before args s = true := va_AOA.use hA.2.2.2.1.2.2.2.2
  intro T hT Xs
  obtain ⟨vm1, cA, comp, -, fA, fC, -, -, X', step⟩ := Xs.multianewarray2F (ty := .int) X.1 X.2.2.2.2.2.1 (ht _ h1) hover (ht _ h3) (g := F0 m pc ls (.int vk :: .int vn :: S.map (ac_v g))) rfl (by rw [X.2.1]; exact hd) rfl (by rw [en]; exact nI_pos (by omega)) (by rw [ek]; exact nI_pos (by omega)) (by rw [cn]; omega) (by rw [ck']; show k * 4 ≤ 536870912; omega) (by rw [ck']; omega) rfl rfl (by rw [cn]; show _ ≤ mc; omega) (by rw [cn, ck']; show _ ≤ ms; omega)
  rw [cn, ck'] at X' step
  have k0 := hA.1.2 0 _ (show (ac_ty g)[0]? = some (g.2.2.2.2.1 0, .int) from rfl)
  have k3 := hA.1.2 3 _ (show (ac_ty g)[3]? = some (g.2.2.2.2.1 3, .array .int) from rfl)
  have ecA : cA = g.2.2.2.2.1 3 := Option.some.inj (fA.symm.trans k3.2)
  have eco : comp = g.2.2.2.2.1 0 := Option.some.inj (fC.symm.trans k0.2)
  subst ecA
  subst eco
  generalize hF : Jvm.Free.Multi.fill (T.setVm vm1) (g.2.2.2.2.1 3) (g.2.2.2.2.1 0) n k (defaultValue .int) n = F at X' step
  have hTh : (T.setVm vm1).heap = H := hT
  obtain ⟨f1, f2, -, -⟩ := Jvm.Free.Multi.fill_facts (T.setVm vm1) (g.2.2.2.2.1 3) (g.2.2.2.2.1 0) n k (defaultValue .int) n
  rw [hF, hTh] at f1 f2
  have hold : ∀ x : Nat, x < H.size → F.heap[x]? = H[x]? := fun x hx => by
    have := Jvm.Free.Multi.fill_old (T.setVm vm1) (g.2.2.2.2.1 3) (g.2.2.2.2.1 0) n k (defaultValue .int) (a := x) (by rw [hTh]; exact hx) n
    rw [hF, hTh] at this
    exact this
  have hR1 : ac_R g (true, N + 1 + n, sh, σ, τ) F.heap := ac_R.grow hR (by omega) (by omega) hold (by rw [f1]; omega) (fun b1 q1 q2 => by
    have eb := ac_at0 hR q1 (show b1 < 1000000 by omega)
    by_cases c0 : b1 = N
    · subst c0
      rw [Nat.sub_self, Nat.add_zero] at eb
      unfold va_at ac_c ac_e
      dsimp only
      rw [hs, eb]
      show F.heap[H.size]? = some (arrV (g.2.2.2.2.1 3) n (fun j => va_rf (if j < n then some (ac_r g (b1 + 1 + j)) else none)))
      rw [f2, vr_outer]
      refine congrArg some (congrArg (arrV (g.2.2.2.2.1 3) n) (funext fun j => ?_))
      by_cases cj : j < n
      · rw [if_pos cj, if_pos cj, ac_at0 hR (show b1 ≤ b1 + 1 + j by omega) (by omega), show b1 + 1 + j - b1 = 1 + j by omega, Nat.add_assoc]
      · rw [if_neg cj, if_neg cj]
    · have hj := hr (b1 - (N + 1)) (by omega)
      have hzj := hz (b1 - (N + 1)) (by omega)
      rw [show N + 1 + (b1 - (N + 1)) = b1 by omega] at hj hzj
      have hin := Jvm.Free.Multi.fill_inner (T.setVm vm1) (g.2.2.2.2.1 3) (g.2.2.2.2.1 0) n k (defaultValue .int) n (b1 - (N + 1)) (by omega)
      rw [hF, hTh, show H.size + 1 + (b1 - (N + 1)) = H.size + (b1 - N) by omega, ← eb] at hin
      unfold va_at ac_c ac_e
      dsimp only
      rw [hj, hzj]
      show F.heap[ac_r g b1]? = some (arrV (g.2.2.2.2.1 0) k (fun _ => .int 0))
      rw [hin, ← arrV_new]
      rfl)
  obtain ⟨t2, a1, b2⟩ := kk p e s m args below meth c X F.heap locs ls hR1 ⟨Nat.le_trans hS.1 (by rw [f1]; omega), fun q h1 h2 => (hold q (Nat.lt_of_lt_of_le h1 hS.1)).trans (hS.2.1 q h1 h2), hS.2.2⟩ hL F rfl X'
  refine ⟨t2, step t2 ?_, b2⟩
  have e0 := ac_at0 hR (Nat.le_refl N) (show N < 1000000 by omega)
  rw [Nat.sub_self, Nat.add_zero, ← hT] at e0
  rw [← e0]
  exact a1
/-- another world with the same cells -/
theorem ax_same {ex : Bool} {sh' : Nat → ac_S} (h : ∀ a, a < N → sh a = sh' a) (kk : ac_X g I d mc ms Q ce sl pc L S (ex, N, sh', σ, τ)) : ac_X g I d mc ms Q ce sl pc L S (ex, N, sh, σ, τ) := by
  intro p e s m args below meth c X H locs ls hR hS hL
  refine kk p e s m args below meth c X H locs ls ⟨?_, hR.2⟩ hS hL
  intro k q hq
  obtain ⟨hk, rfl⟩ := ac_ws_some hq
  have h0 := hR.1 k _ (ac_ws_at (w := (ex, N, sh, σ, τ)) hk)
  have : ac_c g (ex, N, sh', σ, τ) k = ac_c g (ex, N, sh, σ, τ) k := by
    unfold ac_c
    dsimp only
    rw [h k hk]
  rw [this]
  exact h0
end AXJ
