/-! THE CONSTRUCTORS -/
def NUL (q : ac_S) : ac_S := match q with
  | .inl x => .inl x
  | .inr (c, tm) => .inr (c, tm.map (fun o => o.map (fun _ => Value.null)))
def FBP (j : Nat) : ac_S := .inr (10, ([(0, 1), (1, 3), (2, 14), (3, 25), (4, 29), (5, 33), (6, 35), (7, 37), (8, 42), (9, 50), (10, 58), (11, 62), (12, 65), (13, 68)].map (fun q => if q.1 < j then some (.ref q.2) else some Value.null)) ++ [none, none, none])
def MX (m j : Nat) : Nat → ac_S := fun a => if a = 0 then FBP j else if a < m then SH a else NUL (SH a)
theorem us0 {σ : ac_m} {a k : Nat} (h : σ a = fun _ => 0) : ac_u σ a k 0 = σ := by
  funext b j
  by_cases c : b = a
  · subst c
    by_cases e : j = k
    · subst e; rw [u_eq, h]
    · rw [u_at e]
  · rw [u_ne c]
theorem ax_put0 {g : ac_G} {I : ac_I} {d mc ms ce sl pc pc' : Nat} {Q : ac_O → ac_W → Prop} {L : List (Option Value)} {S : List Value} {ex : Bool} {N : Nat} {sh : Nat → ac_S} {σ : Nat → Nat → Int32} {τ : Nat → Nat → Int64} {a idx ci k : Nat} {tm : List (Option Value)} (hd : decode I.2.1 pc = .ok (.putfield idx, 3)) (hF : ac_F I.1.cls idx ci k .int false) (hs : sh a = .inr (ci, tm)) (hk : tm[k]? = some none) (ha : Nat.blt a N = true) (hz : σ a = fun _ => 0) (hp : pc' = pc + 3) (kk : ac_X g I d mc ms Q ce sl pc' L S (ex, N, sh, σ, τ)) : ac_X g I d mc ms Q ce sl pc L (.int 0 :: .ref a :: S) (ex, N, sh, σ, τ) := by
  refine ax_putI hd hF hs hk ha hp ?_
  rw [us0 hz]
  exact kk
theorem oi_2 : Cond.instanceMethod Lib.objectInit ∈ ac_tb := (ac_at 135 (by decide +kernel) (by decide +kernel))
theorem oi_3 : Cond.code Lib.objectInit ⟨#[0xb1]⟩ 1 none ∈ ac_tb := (ac_at 136 (by decide +kernel) (by decide +kernel))
theorem oi_X0 : Cond.methodLink RX0 3 Lib.objectInit ∈ ac_tb := (ac_at 266 (by decide +kernel) (by decide +kernel))
theorem oi_X1 : Cond.methodLink RX1 3 Lib.objectInit ∈ ac_tb := (ac_at 459 (by decide +kernel) (by decide +kernel))
theorem oi_X2 : Cond.methodLink RX2 3 Lib.objectInit ∈ ac_tb := (ac_at 394 (by decide +kernel) (by decide +kernel))
theorem oi_X3 : Cond.methodLink RX3 3 Lib.objectInit ∈ ac_tb := (ac_at 177 (by decide +kernel) (by decide +kernel))
theorem oi_X4 : Cond.methodLink RX4 3 Lib.objectInit ∈ ac_tb := (ac_at 239 (by decide +kernel) (by decide +kernel))
theorem oi_X5 : Cond.methodLink RX5 3 Lib.objectInit ∈ ac_tb := (ac_at 321 (by decide +kernel) (by decide +kernel))
theorem oi_X6 : Cond.methodLink RX6 5 Lib.objectInit ∈ ac_tb := (ac_at 370 (by decide +kernel) (by decide +kernel))
theorem oi_X7 : Cond.methodLink RX7 3 Lib.objectInit ∈ ac_tb := (ac_at 287 (by decide +kernel) (by decide +kernel))
theorem oi_X9 : Cond.methodLink RX9 3 Lib.objectInit ∈ ac_tb := (ac_at 421 (by decide +kernel) (by decide +kernel))
theorem oi_X10 : Cond.methodLink RX10 3 Lib.objectInit ∈ ac_tb := (ac_at 142 (by decide +kernel) (by decide +kernel))
theorem oi_X11 : Cond.methodLink RX11 3 Lib.objectInit ∈ ac_tb := (ac_at 134 (by decide +kernel) (by decide +kernel))
theorem oi_X12 : Cond.methodLink RX12 1 Lib.objectInit ∈ ac_tb := (ac_at 1540 (by decide +kernel) (by decide +kernel))
theorem ar_int : Cond.arrayClass .int ∈ ac_tb := (ac_at 233 (by decide +kernel) (by decide +kernel))
theorem ar_byte : Cond.arrayClass .byte ∈ ac_tb := (ac_at 171 (by decide +kernel) (by decide +kernel))
theorem ar_long : Cond.arrayClass .long ∈ ac_tb := (ac_at 1700 (by decide +kernel) (by decide +kernel))
theorem ix_X0 (own : String) (idx : Nat) : ac_Ix own idx i_X0_init 0 := ⟨rfl, rfl, (ac_at 264 (by decide +kernel) (by decide +kernel)), (ac_at 107 (by decide +kernel) (by decide +kernel)), (ac_at 265 (by decide +kernel) (by decide +kernel)), ⟨by decide +kernel, by decide +kernel, by decide +kernel⟩, by decide⟩
theorem ix_X1 (own : String) (idx : Nat) : ac_Ix own idx i_X1_init 3 := ⟨rfl, rfl, (ac_at 457 (by decide +kernel) (by decide +kernel)), (ac_at 114 (by decide +kernel) (by decide +kernel)), (ac_at 458 (by decide +kernel) (by decide +kernel)), ⟨by decide +kernel, by decide +kernel, by decide +kernel⟩, by decide⟩
theorem ix_X2 (own : String) (idx : Nat) : ac_Ix own idx i_X2_init 2 := ⟨rfl, rfl, (ac_at 392 (by decide +kernel) (by decide +kernel)), (ac_at 112 (by decide +kernel) (by decide +kernel)), (ac_at 393 (by decide +kernel) (by decide +kernel)), ⟨by decide +kernel, by decide +kernel, by decide +kernel⟩, by decide⟩
theorem ix_X3 (own : String) (idx : Nat) : ac_Ix own idx i_X3_init 0 := ⟨rfl, rfl, (ac_at 175 (by decide +kernel) (by decide +kernel)), (ac_at 105 (by decide +kernel) (by decide +kernel)), (ac_at 176 (by decide +kernel) (by decide +kernel)), ⟨by decide +kernel, by decide +kernel, by decide +kernel⟩, by decide⟩
theorem ix_X4 (own : String) (idx : Nat) : ac_Ix own idx i_X4_init 0 := ⟨rfl, rfl, (ac_at 237 (by decide +kernel) (by decide +kernel)), (ac_at 106 (by decide +kernel) (by decide +kernel)), (ac_at 238 (by decide +kernel) (by decide +kernel)), ⟨by decide +kernel, by decide +kernel, by decide +kernel⟩, by decide⟩
theorem ix_X5 (own : String) (idx : Nat) : ac_Ix own idx i_X5_init 2 := ⟨rfl, rfl, (ac_at 319 (by decide +kernel) (by decide +kernel)), (ac_at 110 (by decide +kernel) (by decide +kernel)), (ac_at 320 (by decide +kernel) (by decide +kernel)), ⟨by decide +kernel, by decide +kernel, by decide +kernel⟩, by decide⟩
theorem ix_X6 (own : String) (idx : Nat) : ac_Ix own idx i_X6_init 0 := ⟨rfl, rfl, (ac_at 368 (by decide +kernel) (by decide +kernel)), (ac_at 111 (by decide +kernel) (by decide +kernel)), (ac_at 369 (by decide +kernel) (by decide +kernel)), ⟨by decide +kernel, by decide +kernel, by decide +kernel⟩, by decide⟩
theorem ix_X7 (own : String) (idx : Nat) : ac_Ix own idx i_X7_init 0 := ⟨rfl, rfl, (ac_at 285 (by decide +kernel) (by decide +kernel)), (ac_at 109 (by decide +kernel) (by decide +kernel)), (ac_at 286 (by decide +kernel) (by decide +kernel)), ⟨by decide +kernel, by decide +kernel, by decide +kernel⟩, by decide⟩
theorem ix_X9 (own : String) (idx : Nat) : ac_Ix own idx i_X9_init 3 := ⟨rfl, rfl, (ac_at 419 (by decide +kernel) (by decide +kernel)), (ac_at 113 (by decide +kernel) (by decide +kernel)), (ac_at 420 (by decide +kernel) (by decide +kernel)), ⟨by decide +kernel, by decide +kernel, by decide +kernel⟩, by decide⟩
theorem ix_X10 (own : String) (idx : Nat) : ac_Ix own idx i_X10_init 0 := ⟨rfl, rfl, (ac_at 140 (by decide +kernel) (by decide +kernel)), (ac_at 104 (by decide +kernel) (by decide +kernel)), (ac_at 141 (by decide +kernel) (by decide +kernel)), ⟨by decide +kernel, by decide +kernel, by decide +kernel⟩, by decide⟩
theorem ix_X11 (own : String) (idx : Nat) : ac_Ix own idx i_X11_init 0 := ⟨rfl, rfl, (ac_at 132 (by decide +kernel) (by decide +kernel)), (ac_at 103 (by decide +kernel) (by decide +kernel)), (ac_at 133 (by decide +kernel) (by decide +kernel)), ⟨by decide +kernel, by decide +kernel, by decide +kernel⟩, by decide⟩
theorem ix_X12 (own : String) (idx : Nat) : ac_Ix own idx i_X12_init 0 := ⟨rfl, rfl, (ac_at 1538 (by decide +kernel) (by decide +kernel)), (ac_at 115 (by decide +kernel) (by decide +kernel)), (ac_at 1539 (by decide +kernel) (by decide +kernel)), ⟨by decide +kernel, by decide +kernel, by decide +kernel⟩, by decide⟩
def lgV (ex : Bool) (N : Nat) (sh : Nat → ac_S) (τ : Nat → Nat → Int64) (Q : ac_m → Prop) : ac_O → ac_W → Prop := fun o w => ∃ s : ac_m, o = .inl none ∧ w = (ex, N, sh, s, τ) ∧ Q s
def lgI (ex : Bool) (N : Nat) (sh : Nat → ac_S) (τ : Nat → Nat → Int64) (Q : Int32 → ac_m → Prop) : ac_O → ac_W → Prop := fun o w => ∃ (r : Int32) (s : ac_m), o = .inl (some (.int r)) ∧ w = (ex, N, sh, s, τ) ∧ Q r s
theorem pl_J7_fill_53178_5 {g : ac_G} {ex : Bool} {N : Nat} {sh : Nat → ac_S} {τ : Nat → Nat → Int64} (d : Nat) (r1 : Nat) (n1 : Nat) (p2 : Int32) (hr1 : sh r1 = .inl (0, n1, 0)) (hn1 : Nat.blt r1 N = true) {Q : ac_m → Prop}  (f1 : Int32) (f3 : Int32)  {x2 : Int32} {s : ac_m} (H : l_J7_fill_53178_5 r1 n1 p2 Q  f1 f3  x2 s) : ac_X g i_J7_fill_53178 d 0 0 (lgV ex N sh τ Q) 0 0 5 [some (.ref r1), some (.int f1), some (.int x2), some (.int f3)] [] (ex, N, sh, s, τ) := by
  refine H (fun x2 s => ac_X g i_J7_fill_53178 d 0 0 (lgV ex N sh τ Q) 0 0 5 [some (.ref r1), some (.int f1), some (.int x2), some (.int f3)] [] (ex, N, sh, s, τ)) ?_
  intro x2 s H
  refine ax_iload_n (pc' := 6) dJ7_fill_53178_5 rfl rfl ?_
  refine ax_iload_n (pc' := 7) dJ7_fill_53178_6 rfl rfl ?_
  refine ax_icmp_ge (pc' := 10) (tgt := 20) dJ7_fill_53178_7 (by decide) rfl (fun hc7 => ?_) (fun hc7 => ?_)
  · have H := H.1 hc7
    exact ax_vret dJ7_fill_53178_20 rfl rfl rfl ⟨_, rfl, rfl, H⟩
  · have H := H.2 hc7
    refine ax_aload_n (pc' := 11) dJ7_fill_53178_10 rfl rfl ?_
    refine ax_iload_n (pc' := 12) dJ7_fill_53178_11 rfl rfl ?_
    refine ax_iload_n (pc' := 13) dJ7_fill_53178_12 rfl rfl ?_
    obtain ⟨hj13, H⟩ := H
    refine ax_iast (pc' := 14) dJ7_fill_53178_13 hr1 hj13 hn1 rfl ?_
    refine ax_iinc (pc' := 17) (v := (x2 + (1 : Int32))) dJ7_fill_53178_14 rfl rfl rfl rfl rfl ?_
    refine ax_goto (tgt := 5) dJ7_fill_53178_17 (by decide) ?_
    exact H
theorem p_J7_fill_53178 {g : ac_G} {ex : Bool} {N : Nat} {sh : Nat → ac_S} {τ : Nat → Nat → Int64} (d : Nat) (r1 : Nat) (n1 : Nat) (p2 : Int32) (hr1 : sh r1 = .inl (0, n1, 0)) (hn1 : Nat.blt r1 N = true) {Q : ac_m → Prop} {s : ac_m} (H : w_J7_fill_53178 r1 n1 p2 Q s) : ac_M g i_J7_fill_53178 d 0 0 [.ref r1, .int p2] (ex, N, sh, s, τ) (lgV ex N sh τ Q) := by
  refine ac_ofX (by decide +kernel) rfl rfl rfl ?_
  refine ax_iconst (pc' := 1) (v := (0 : Int32)) dJ7_fill_53178_0 (by decide) rfl ?_
  refine ax_istore_n (pc' := 2) dJ7_fill_53178_1 rfl rfl rfl ?_
  refine ax_aload_n (pc' := 3) dJ7_fill_53178_2 rfl rfl ?_
  refine ax_alen (pc' := 4) (v := (Int32.ofNat n1)) dJ7_fill_53178_3 hr1 rfl rfl hn1 rfl ?_
  refine ax_istore_n (pc' := 5) dJ7_fill_53178_4 rfl rfl rfl ?_
  refine pl_J7_fill_53178_5 d r1 n1 p2 hr1 hn1 _ _    H
theorem p_X0_clear {g : ac_G} {ex : Bool} {N : Nat} {sh : Nat → ac_S} {τ : Nat → Nat → Int64} (d : Nat) (a : Nat) (h0 : sh a = .inr (0, [some (.ref (a + 1)), none])) (h1 : sh (a + 1) = .inl (0, 13, 0)) (h2 : Nat.blt a N = true) (h3 : Nat.blt (a + 1) N = true) {Q : ac_m → Prop} {s : ac_m} (H : w_X0_clear a Q s) : ac_M g i_X0_clear (d + 1) 0 0 [.ref a] (ex, N, sh, s, τ) (lgV ex N sh τ Q) := by
  refine ac_ofX (by decide +kernel) rfl rfl rfl ?_
  refine ax_aload_n (pc' := 1) dX0_clear_0 rfl rfl ?_
  refine ax_getR (pc' := 4) dX0_clear_1 fl_X0_9 h0 rfl h2 rfl ?_
  refine ax_iconst (pc' := 5) (v := (-1 : Int32)) dX0_clear_4 (by decide) rfl ?_
  refine ay_S2 (pc' := 8) (ce' := 0) (sl' := 0) (mc2 := 0) (ms2 := 0) (I2 := i_J7_fill_53178) dX0_clear_5 ml_X0_22 rfl rfl rfl rfl rfl rfl rfl rfl (ac_M.imp (p_J7_fill_53178 _ (a + 1) 13 (-1 : Int32) h1 h3 H) ?_)
  rintro _ _ ⟨s5, rfl, rfl, H⟩
  refine ax_aload_n (pc' := 9) dX0_clear_8 rfl rfl ?_
  refine ax_iconst (pc' := 10) (v := (0 : Int32)) dX0_clear_9 (by decide) rfl ?_
  refine ax_putI (pc' := 13) dX0_clear_10 fp_X0_15 h0 rfl h2 rfl ?_
  exact ax_vret dX0_clear_13 rfl rfl rfl ⟨_, rfl, rfl, H⟩
theorem p_X4_put {g : ac_G} {ex : Bool} {N : Nat} {sh : Nat → ac_S} {τ : Nat → Nat → Int64} (d : Nat) (a : Nat) (p1 : Int32) (h0 : sh a = .inr (4, [some (.ref (a + 1)), some (.ref (a + 2)), some (.ref (a + 3)), none])) (h1 : sh (a + 1) = .inl (0, 150, 0)) (h4 : Nat.blt a N = true) (h5 : Nat.blt (a + 1) N = true) {Q : Int32 → ac_m → Prop} {s : ac_m} (H : w_X4_put a p1 Q s) : ac_M g i_X4_put d 0 0 [.ref a, .int p1] (ex, N, sh, s, τ) (lgI ex N sh τ Q) := by
  refine ac_ofX (by decide +kernel) rfl rfl rfl ?_
  refine ax_aload_n (pc' := 1) dX4_put_0 rfl rfl ?_
  refine ax_getI (pc' := 4) dX4_put_1 fl_X4_21 h0 rfl h4 rfl ?_
  refine ax_if_lt (pc' := 7) (tgt := 37) dX4_put_4 (by decide) rfl (fun hc4 => ?_) (fun hc4 => ?_)
  · have H := H.1 hc4
    refine ax_iconst (pc' := 38) (v := (1 : Int32)) dX4_put_37 (by decide) rfl ?_
    exact ax_zret dX4_put_38 rfl rfl rfl rfl ⟨_, _, rfl, rfl, H⟩
  · have H := H.2 hc4
    refine ax_aload_n (pc' := 8) dX4_put_7 rfl rfl ?_
    refine ax_getI (pc' := 11) dX4_put_8 fl_X4_21 h0 rfl h4 rfl ?_
    refine ax_sipush (pc' := 14) (v := (150 : Int32)) dX4_put_11 (by decide) rfl ?_
    refine ax_icmp_ge (pc' := 17) (tgt := 37) dX4_put_14 (by decide) rfl (fun hc14 => ?_) (fun hc14 => ?_)
    · have H := H.1 hc14
      refine ax_iconst (pc' := 38) (v := (1 : Int32)) dX4_put_37 (by decide) rfl ?_
      exact ax_zret dX4_put_38 rfl rfl rfl rfl ⟨_, _, rfl, rfl, H⟩
    · have H := H.2 hc14
      refine ax_aload_n (pc' := 18) dX4_put_17 rfl rfl ?_
      refine ax_getR (pc' := 21) dX4_put_18 fl_X4_9 h0 rfl h4 rfl ?_
      refine ax_aload_n (pc' := 22) dX4_put_21 rfl rfl ?_
      refine ax_getI (pc' := 25) dX4_put_22 fl_X4_21 h0 rfl h4 rfl ?_
      refine ax_iload_n (pc' := 26) dX4_put_25 rfl rfl ?_
      obtain ⟨hj26, H⟩ := H
      refine ax_iast (pc' := 27) dX4_put_26 h1 hj26 h5 rfl ?_
      refine ax_aload_n (pc' := 28) dX4_put_27 rfl rfl ?_
      refine ax_dup (pc' := 29) dX4_put_28 rfl rfl ?_
      refine ax_getI (pc' := 32) dX4_put_29 fl_X4_21 h0 rfl h4 rfl ?_
      refine ax_iconst (pc' := 33) (v := (1 : Int32)) dX4_put_32 (by decide) rfl ?_
      refine ax_iadd (pc' := 34) dX4_put_33 rfl ?_
      refine ax_putI (pc' := 37) dX4_put_34 fp_X4_21 h0 rfl h4 rfl ?_
      refine ax_iconst (pc' := 38) (v := (1 : Int32)) dX4_put_37 (by decide) rfl ?_
      exact ax_zret dX4_put_38 rfl rfl rfl rfl ⟨_, _, rfl, rfl, H⟩
theorem p_X4_setPlain {g : ac_G} {ex : Bool} {N : Nat} {sh : Nat → ac_S} {τ : Nat → Nat → Int64} (d : Nat) (a : Nat) (h0 : sh a = .inr (4, [some (.ref (a + 1)), some (.ref (a + 2)), some (.ref (a + 3)), none])) (h1 : sh (a + 1) = .inl (0, 150, 0)) (h4 : Nat.blt a N = true) (h5 : Nat.blt (a + 1) N = true) {Q : ac_m → Prop} {s : ac_m} (H : w_X4_setPlain a Q s) : ac_M g i_X4_setPlain (d + 1) 0 0 [.ref a] (ex, N, sh, s, τ) (lgV ex N sh τ Q) := by
  refine ac_ofX (by decide +kernel) rfl rfl rfl ?_
  refine ax_aload_n (pc' := 1) dX4_setPlain_0 rfl rfl ?_
  refine ax_iconst (pc' := 2) (v := (0 : Int32)) dX4_setPlain_1 (by decide) rfl ?_
  refine ax_putI (pc' := 5) dX4_setPlain_2 fp_X4_21 h0 rfl h4 rfl ?_
  refine ax_aload_n (pc' := 6) dX4_setPlain_5 rfl rfl ?_
  refine ax_iconst (pc' := 7) (v := (1 : Int32)) dX4_setPlain_6 (by decide) rfl ?_
  refine ay_V1 (pc' := 10) (ce' := 0) (sl' := 0) (mc2 := 0) (ms2 := 0) (I2 := i_X4_put) dX4_setPlain_7 ml_X4_28 h0 (by decide) h4 rfl rfl rfl rfl rfl rfl rfl rfl (ac_M.imp (p_X4_put _ a (1 : Int32) h0 h1 h4 h5 H) ?_)
  rintro _ _ ⟨r7, s7, rfl, rfl, H⟩
  refine ax_pop (pc' := 11) dX4_setPlain_10 rfl rfl ?_
  refine ax_aload_n (pc' := 12) dX4_setPlain_11 rfl rfl ?_
  refine ax_iconst (pc' := 13) (v := (-1 : Int32)) dX4_setPlain_12 (by decide) rfl ?_
  refine ay_V1 (pc' := 16) (ce' := 0) (sl' := 0) (mc2 := 0) (ms2 := 0) (I2 := i_X4_put) dX4_setPlain_13 ml_X4_28 h0 (by decide) h4 rfl rfl rfl rfl rfl rfl rfl rfl (ac_M.imp (p_X4_put _ a (-1 : Int32) h0 h1 h4 h5 H) ?_)
  rintro _ _ ⟨r13, s13, rfl, rfl, H⟩
  refine ax_pop (pc' := 17) dX4_setPlain_16 rfl rfl ?_
  refine ax_aload_n (pc' := 18) dX4_setPlain_17 rfl rfl ?_
  refine ax_bipush (pc' := 20) (v := (10 : Int32)) dX4_setPlain_18 (by decide) rfl ?_
  refine ay_V1 (pc' := 23) (ce' := 0) (sl' := 0) (mc2 := 0) (ms2 := 0) (I2 := i_X4_put) dX4_setPlain_20 ml_X4_28 h0 (by decide) h4 rfl rfl rfl rfl rfl rfl rfl rfl (ac_M.imp (p_X4_put _ a (10 : Int32) h0 h1 h4 h5 H) ?_)
  rintro _ _ ⟨r20, s20, rfl, rfl, H⟩
  refine ax_pop (pc' := 24) dX4_setPlain_23 rfl rfl ?_
  refine ax_aload_n (pc' := 25) dX4_setPlain_24 rfl rfl ?_
  refine ax_bipush (pc' := 27) (v := (-12 : Int32)) dX4_setPlain_25 (by decide) rfl ?_
  refine ay_V1 (pc' := 30) (ce' := 0) (sl' := 0) (mc2 := 0) (ms2 := 0) (I2 := i_X4_put) dX4_setPlain_27 ml_X4_28 h0 (by decide) h4 rfl rfl rfl rfl rfl rfl rfl rfl (ac_M.imp (p_X4_put _ a (-12 : Int32) h0 h1 h4 h5 H) ?_)
  rintro _ _ ⟨r27, s27, rfl, rfl, H⟩
  refine ax_pop (pc' := 31) dX4_setPlain_30 rfl rfl ?_
  refine ax_aload_n (pc' := 32) dX4_setPlain_31 rfl rfl ?_
  refine ax_bipush (pc' := 34) (v := (-9 : Int32)) dX4_setPlain_32 (by decide) rfl ?_
  refine ay_V1 (pc' := 37) (ce' := 0) (sl' := 0) (mc2 := 0) (ms2 := 0) (I2 := i_X4_put) dX4_setPlain_34 ml_X4_28 h0 (by decide) h4 rfl rfl rfl rfl rfl rfl rfl rfl (ac_M.imp (p_X4_put _ a (-9 : Int32) h0 h1 h4 h5 H) ?_)
  rintro _ _ ⟨r34, s34, rfl, rfl, H⟩
  refine ax_pop (pc' := 38) dX4_setPlain_37 rfl rfl ?_
  exact ax_vret dX4_setPlain_38 rfl rfl rfl ⟨_, rfl, rfl, H⟩
theorem k_X10_1 {g : ac_G} {τ : Nat → Nat → Int64} (d : Nat) {Q : ac_O → ac_W → Prop} {σ : ac_m} (hz : ∀ y, 1 ≤ y → y < 3 → σ y = fun _ => 0) (H : Q (.inl none) (true, 3, MX 3 0, (ac_u σ 1 6 (-1)), τ)) : ac_M g i_X10_init d 1 600 [.ref 1] (true, 2, MX 1 0, σ, τ) Q := by
  refine ac_ofX (by decide +kernel) rfl rfl rfl ?_
  refine ax_aload_n (pc' := 1) dX10_init_0 rfl rfl ?_
  refine ax_obj0 (pc' := 4) dX10_init_1 oi_X10 oi_2 oi_3 rfl rfl ?_
  refine ax_aload_n (pc' := 5) dX10_init_4 rfl rfl ?_
  refine ax_sipush (pc' := 8) (v := (600 : Int32)) dX10_init_5 (by decide) rfl ?_
  refine ax_newB (pc' := 10) (b := 0) (n := 600) dX10_init_8 ar_byte (by decide +kernel) (hz 2 (by decide) (by decide)) rfl rfl rfl rfl rfl rfl ?_
  refine ax_putR (pc' := 13) (tm := [some Value.null, none, none, none, none, none, none]) dX10_init_10 fp_X10_9 rfl (fun _ => rfl) (fun _ => rfl) (by decide +kernel) rfl rfl rfl ?_
  refine ax_aload_n (pc' := 14) dX10_init_13 rfl rfl ?_
  refine ax_iconst (pc' := 15) (v := (0 : Int32)) dX10_init_14 (by decide) rfl ?_
  refine ax_put0 (pc' := 18) (tm := [some (.ref 2), none, none, none, none, none, none]) dX10_init_15 fp_X10_15 (by decide +kernel) rfl rfl (hz 1 (by decide) (by decide)) rfl ?_
  refine ax_aload_n (pc' := 19) dX10_init_18 rfl rfl ?_
  refine ax_iconst (pc' := 20) (v := (0 : Int32)) dX10_init_19 (by decide) rfl ?_
  refine ax_put0 (pc' := 23) (tm := [some (.ref 2), none, none, none, none, none, none]) dX10_init_20 fp_X10_19 (by decide +kernel) rfl rfl (hz 1 (by decide) (by decide)) rfl ?_
  refine ax_aload_n (pc' := 24) dX10_init_23 rfl rfl ?_
  refine ax_iconst (pc' := 25) (v := (0 : Int32)) dX10_init_24 (by decide) rfl ?_
  refine ax_put0 (pc' := 28) (tm := [some (.ref 2), none, none, none, none, none, none]) dX10_init_25 fp_X10_22 (by decide +kernel) rfl rfl (hz 1 (by decide) (by decide)) rfl ?_
  refine ax_aload_n (pc' := 29) dX10_init_28 rfl rfl ?_
  refine ax_iconst (pc' := 30) (v := (0 : Int32)) dX10_init_29 (by decide) rfl ?_
  refine ax_put0 (pc' := 33) (tm := [some (.ref 2), none, none, none, none, none, none]) dX10_init_30 fp_X10_25 (by decide +kernel) rfl rfl (hz 1 (by decide) (by decide)) rfl ?_
  refine ax_aload_n (pc' := 34) dX10_init_33 rfl rfl ?_
  refine ax_iconst (pc' := 35) (v := (0 : Int32)) dX10_init_34 (by decide) rfl ?_
  refine ax_put0 (pc' := 38) (tm := [some (.ref 2), none, none, none, none, none, none]) dX10_init_35 fp_X10_28 (by decide +kernel) rfl rfl (hz 1 (by decide) (by decide)) rfl ?_
  refine ax_aload_n (pc' := 39) dX10_init_38 rfl rfl ?_
  refine ax_iconst (pc' := 40) (v := (-1 : Int32)) dX10_init_39 (by decide) rfl ?_
  refine ax_putI (pc' := 43) (tm := [some (.ref 2), none, none, none, none, none, none]) dX10_init_40 fp_X10_31 (by decide +kernel) rfl rfl rfl ?_
  refine ax_same (sh' := MX 3 0) (by decide +kernel) ?_
  exact ax_vret dX10_init_43 rfl rfl rfl H
theorem k_X3_3 {g : ac_G} {τ : Nat → Nat → Int64} (d : Nat) {Q : ac_O → ac_W → Prop} {σ : ac_m} (hz : ∀ y, 3 ≤ y → y < 14 → σ y = fun _ => 0) (H : Q (.inl none) (true, 14, MX 14 1, σ, τ)) : ac_M g i_X3_init d 10 100 [.ref 3] (true, 4, MX 3 1, σ, τ) Q := by
  refine ac_ofX (by decide +kernel) rfl rfl rfl ?_
  refine ax_aload_n (pc' := 1) dX3_init_0 rfl rfl ?_
  refine ax_obj0 (pc' := 4) dX3_init_1 oi_X3 oi_2 oi_3 rfl rfl ?_
  refine ax_aload_n (pc' := 5) dX3_init_4 rfl rfl ?_
  refine ax_bipush (pc' := 7) (v := (6 : Int32)) dX3_init_5 (by decide) rfl ?_
  refine ax_newI (pc' := 9) (b := 0) (n := 6) dX3_init_7 ar_int (by decide +kernel) (hz 4 (by decide) (by decide)) rfl rfl rfl rfl rfl rfl ?_
  refine ax_putR (pc' := 12) (tm := [some Value.null, some Value.null, some Value.null, some Value.null, some Value.null, some Value.null, some Value.null, some Value.null, some Value.null, some Value.null, none, none, none]) dX3_init_9 fp_X3_9 rfl (fun _ => rfl) (fun _ => rfl) (by decide +kernel) rfl rfl rfl ?_
  refine ax_aload_n (pc' := 13) dX3_init_12 rfl rfl ?_
  refine ax_bipush (pc' := 15) (v := (6 : Int32)) dX3_init_13 (by decide) rfl ?_
  refine ax_newI (pc' := 17) (b := 0) (n := 6) dX3_init_15 ar_int (by decide +kernel) (hz 5 (by decide) (by decide)) rfl rfl rfl rfl rfl rfl ?_
  refine ax_putR (pc' := 20) (tm := [some (.ref 4), some Value.null, some Value.null, some Value.null, some Value.null, some Value.null, some Value.null, some Value.null, some Value.null, some Value.null, none, none, none]) dX3_init_17 fp_X3_15 rfl (fun _ => rfl) (fun _ => rfl) (by decide +kernel) rfl rfl rfl ?_
  refine ax_aload_n (pc' := 21) dX3_init_20 rfl rfl ?_
  refine ax_bipush (pc' := 23) (v := (13 : Int32)) dX3_init_21 (by decide) rfl ?_
  refine ax_newI (pc' := 25) (b := 0) (n := 13) dX3_init_23 ar_int (by decide +kernel) (hz 6 (by decide) (by decide)) rfl rfl rfl rfl rfl rfl ?_
  refine ax_putR (pc' := 28) (tm := [some (.ref 4), some (.ref 5), some Value.null, some Value.null, some Value.null, some Value.null, some Value.null, some Value.null, some Value.null, some Value.null, none, none, none]) dX3_init_25 fp_X3_18 rfl (fun _ => rfl) (fun _ => rfl) (by decide +kernel) rfl rfl rfl ?_
  refine ax_aload_n (pc' := 29) dX3_init_28 rfl rfl ?_
  refine ax_bipush (pc' := 31) (v := (13 : Int32)) dX3_init_29 (by decide) rfl ?_
  refine ax_newI (pc' := 33) (b := 0) (n := 13) dX3_init_31 ar_int (by decide +kernel) (hz 7 (by decide) (by decide)) rfl rfl rfl rfl rfl rfl ?_
  refine ax_putR (pc' := 36) (tm := [some (.ref 4), some (.ref 5), some (.ref 6), some Value.null, some Value.null, some Value.null, some Value.null, some Value.null, some Value.null, some Value.null, none, none, none]) dX3_init_33 fp_X3_21 rfl (fun _ => rfl) (fun _ => rfl) (by decide +kernel) rfl rfl rfl ?_
  refine ax_aload_n (pc' := 37) dX3_init_36 rfl rfl ?_
  refine ax_bipush (pc' := 39) (v := (13 : Int32)) dX3_init_37 (by decide) rfl ?_
  refine ax_newI (pc' := 41) (b := 0) (n := 13) dX3_init_39 ar_int (by decide +kernel) (hz 8 (by decide) (by decide)) rfl rfl rfl rfl rfl rfl ?_
  refine ax_putR (pc' := 44) (tm := [some (.ref 4), some (.ref 5), some (.ref 6), some (.ref 7), some Value.null, some Value.null, some Value.null, some Value.null, some Value.null, some Value.null, none, none, none]) dX3_init_41 fp_X3_24 rfl (fun _ => rfl) (fun _ => rfl) (by decide +kernel) rfl rfl rfl ?_
  refine ax_aload_n (pc' := 45) dX3_init_44 rfl rfl ?_
  refine ax_bipush (pc' := 47) (v := (13 : Int32)) dX3_init_45 (by decide) rfl ?_
  refine ax_newI (pc' := 49) (b := 0) (n := 13) dX3_init_47 ar_int (by decide +kernel) (hz 9 (by decide) (by decide)) rfl rfl rfl rfl rfl rfl ?_
  refine ax_putR (pc' := 52) (tm := [some (.ref 4), some (.ref 5), some (.ref 6), some (.ref 7), some (.ref 8), some Value.null, some Value.null, some Value.null, some Value.null, some Value.null, none, none, none]) dX3_init_49 fp_X3_27 rfl (fun _ => rfl) (fun _ => rfl) (by decide +kernel) rfl rfl rfl ?_
  refine ax_aload_n (pc' := 53) dX3_init_52 rfl rfl ?_
  refine ax_bipush (pc' := 55) (v := (10 : Int32)) dX3_init_53 (by decide) rfl ?_
  refine ax_newI (pc' := 57) (b := 0) (n := 10) dX3_init_55 ar_int (by decide +kernel) (hz 10 (by decide) (by decide)) rfl rfl rfl rfl rfl rfl ?_
  refine ax_putR (pc' := 60) (tm := [some (.ref 4), some (.ref 5), some (.ref 6), some (.ref 7), some (.ref 8), some (.ref 9), some Value.null, some Value.null, some Value.null, some Value.null, none, none, none]) dX3_init_57 fp_X3_30 rfl (fun _ => rfl) (fun _ => rfl) (by decide +kernel) rfl rfl rfl ?_
  refine ax_aload_n (pc' := 61) dX3_init_60 rfl rfl ?_
  refine ax_bipush (pc' := 63) (v := (10 : Int32)) dX3_init_61 (by decide) rfl ?_
  refine ax_newI (pc' := 65) (b := 0) (n := 10) dX3_init_63 ar_int (by decide +kernel) (hz 11 (by decide) (by decide)) rfl rfl rfl rfl rfl rfl ?_
  refine ax_putR (pc' := 68) (tm := [some (.ref 4), some (.ref 5), some (.ref 6), some (.ref 7), some (.ref 8), some (.ref 9), some (.ref 10), some Value.null, some Value.null, some Value.null, none, none, none]) dX3_init_65 fp_X3_33 rfl (fun _ => rfl) (fun _ => rfl) (by decide +kernel) rfl rfl rfl ?_
  refine ax_aload_n (pc' := 69) dX3_init_68 rfl rfl ?_
  refine ax_bipush (pc' := 71) (v := (10 : Int32)) dX3_init_69 (by decide) rfl ?_
  refine ax_newI (pc' := 73) (b := 0) (n := 10) dX3_init_71 ar_int (by decide +kernel) (hz 12 (by decide) (by decide)) rfl rfl rfl rfl rfl rfl ?_
  refine ax_putR (pc' := 76) (tm := [some (.ref 4), some (.ref 5), some (.ref 6), some (.ref 7), some (.ref 8), some (.ref 9), some (.ref 10), some (.ref 11), some Value.null, some Value.null, none, none, none]) dX3_init_73 fp_X3_36 rfl (fun _ => rfl) (fun _ => rfl) (by decide +kernel) rfl rfl rfl ?_
  refine ax_aload_n (pc' := 77) dX3_init_76 rfl rfl ?_
  refine ax_bipush (pc' := 79) (v := (6 : Int32)) dX3_init_77 (by decide) rfl ?_
  refine ax_newI (pc' := 81) (b := 0) (n := 6) dX3_init_79 ar_int (by decide +kernel) (hz 13 (by decide) (by decide)) rfl rfl rfl rfl rfl rfl ?_
  refine ax_putR (pc' := 84) (tm := [some (.ref 4), some (.ref 5), some (.ref 6), some (.ref 7), some (.ref 8), some (.ref 9), some (.ref 10), some (.ref 11), some (.ref 12), some Value.null, none, none, none]) dX3_init_81 fp_X3_39 rfl (fun _ => rfl) (fun _ => rfl) (by decide +kernel) rfl rfl rfl ?_
  refine ax_aload_n (pc' := 85) dX3_init_84 rfl rfl ?_
  refine ax_iconst (pc' := 86) (v := (0 : Int32)) dX3_init_85 (by decide) rfl ?_
  refine ax_put0 (pc' := 89) (tm := [some (.ref 4), some (.ref 5), some (.ref 6), some (.ref 7), some (.ref 8), some (.ref 9), some (.ref 10), some (.ref 11), some (.ref 12), some (.ref 13), none, none, none]) dX3_init_86 fp_X3_42 (by decide +kernel) rfl rfl (hz 3 (by decide) (by decide)) rfl ?_
  refine ax_aload_n (pc' := 90) dX3_init_89 rfl rfl ?_
  refine ax_iconst (pc' := 91) (v := (0 : Int32)) dX3_init_90 (by decide) rfl ?_
  refine ax_put0 (pc' := 94) (tm := [some (.ref 4), some (.ref 5), some (.ref 6), some (.ref 7), some (.ref 8), some (.ref 9), some (.ref 10), some (.ref 11), some (.ref 12), some (.ref 13), none, none, none]) dX3_init_91 fp_X3_46 (by decide +kernel) rfl rfl (hz 3 (by decide) (by decide)) rfl ?_
  refine ax_aload_n (pc' := 95) dX3_init_94 rfl rfl ?_
  refine ax_iconst (pc' := 96) (v := (0 : Int32)) dX3_init_95 (by decide) rfl ?_
  refine ax_put0 (pc' := 99) (tm := [some (.ref 4), some (.ref 5), some (.ref 6), some (.ref 7), some (.ref 8), some (.ref 9), some (.ref 10), some (.ref 11), some (.ref 12), some (.ref 13), none, none, none]) dX3_init_96 fp_X3_49 (by decide +kernel) rfl rfl (hz 3 (by decide) (by decide)) rfl ?_
  refine ax_same (sh' := MX 14 1) (by decide +kernel) ?_
  exact ax_vret dX3_init_99 rfl rfl rfl H
theorem k_X3_14 {g : ac_G} {τ : Nat → Nat → Int64} (d : Nat) {Q : ac_O → ac_W → Prop} {σ : ac_m} (hz : ∀ y, 14 ≤ y → y < 25 → σ y = fun _ => 0) (H : Q (.inl none) (true, 25, MX 25 2, σ, τ)) : ac_M g i_X3_init d 10 100 [.ref 14] (true, 15, MX 14 2, σ, τ) Q := by
  refine ac_ofX (by decide +kernel) rfl rfl rfl ?_
  refine ax_aload_n (pc' := 1) dX3_init_0 rfl rfl ?_
  refine ax_obj0 (pc' := 4) dX3_init_1 oi_X3 oi_2 oi_3 rfl rfl ?_
  refine ax_aload_n (pc' := 5) dX3_init_4 rfl rfl ?_
  refine ax_bipush (pc' := 7) (v := (6 : Int32)) dX3_init_5 (by decide) rfl ?_
  refine ax_newI (pc' := 9) (b := 0) (n := 6) dX3_init_7 ar_int (by decide +kernel) (hz 15 (by decide) (by decide)) rfl rfl rfl rfl rfl rfl ?_
  refine ax_putR (pc' := 12) (tm := [some Value.null, some Value.null, some Value.null, some Value.null, some Value.null, some Value.null, some Value.null, some Value.null, some Value.null, some Value.null, none, none, none]) dX3_init_9 fp_X3_9 rfl (fun _ => rfl) (fun _ => rfl) (by decide +kernel) rfl rfl rfl ?_
  refine ax_aload_n (pc' := 13) dX3_init_12 rfl rfl ?_
  refine ax_bipush (pc' := 15) (v := (6 : Int32)) dX3_init_13 (by decide) rfl ?_
  refine ax_newI (pc' := 17) (b := 0) (n := 6) dX3_init_15 ar_int (by decide +kernel) (hz 16 (by decide) (by decide)) rfl rfl rfl rfl rfl rfl ?_
  refine ax_putR (pc' := 20) (tm := [some (.ref 15), some Value.null, some Value.null, some Value.null, some Value.null, some Value.null, some Value.null, some Value.null, some Value.null, some Value.null, none, none, none]) dX3_init_17 fp_X3_15 rfl (fun _ => rfl) (fun _ => rfl) (by decide +kernel) rfl rfl rfl ?_
  refine ax_aload_n (pc' := 21) dX3_init_20 rfl rfl ?_
  refine ax_bipush (pc' := 23) (v := (13 : Int32)) dX3_init_21 (by decide) rfl ?_
  refine ax_newI (pc' := 25) (b := 0) (n := 13) dX3_init_23 ar_int (by decide +kernel) (hz 17 (by decide) (by decide)) rfl rfl rfl rfl rfl rfl ?_
  refine ax_putR (pc' := 28) (tm := [some (.ref 15), some (.ref 16), some Value.null, some Value.null, some Value.null, some Value.null, some Value.null, some Value.null, some Value.null, some Value.null, none, none, none]) dX3_init_25 fp_X3_18 rfl (fun _ => rfl) (fun _ => rfl) (by decide +kernel) rfl rfl rfl ?_
  refine ax_aload_n (pc' := 29) dX3_init_28 rfl rfl ?_
  refine ax_bipush (pc' := 31) (v := (13 : Int32)) dX3_init_29 (by decide) rfl ?_
  refine ax_newI (pc' := 33) (b := 0) (n := 13) dX3_init_31 ar_int (by decide +kernel) (hz 18 (by decide) (by decide)) rfl rfl rfl rfl rfl rfl ?_
  refine ax_putR (pc' := 36) (tm := [some (.ref 15), some (.ref 16), some (.ref 17), some Value.null, some Value.null, some Value.null, some Value.null, some Value.null, some Value.null, some Value.null, none, none, none]) dX3_init_33 fp_X3_21 rfl (fun _ => rfl) (fun _ => rfl) (by decide +kernel) rfl rfl rfl ?_
  refine ax_aload_n (pc' := 37) dX3_init_36 rfl rfl ?_
  refine ax_bipush (pc' := 39) (v := (13 : Int32)) dX3_init_37 (by decide) rfl ?_
  refine ax_newI (pc' := 41) (b := 0) (n := 13) dX3_init_39 ar_int (by decide +kernel) (hz 19 (by decide) (by decide)) rfl rfl rfl rfl rfl rfl ?_
  refine ax_putR (pc' := 44) (tm := [some (.ref 15), some (.ref 16), some (.ref 17), some (.ref 18), some Value.null, some Value.null, some Value.null, some Value.null, some Value.null, some Value.null, none, none, none]) dX3_init_41 fp_X3_24 rfl (fun _ => rfl) (fun _ => rfl) (by decide +kernel) rfl rfl rfl ?_
  refine ax_aload_n (pc' := 45) dX3_init_44 rfl rfl ?_
  refine ax_bipush (pc' := 47) (v := (13 : Int32)) dX3_init_45 (by decide) rfl ?_
  refine ax_newI (pc' := 49) (b := 0) (n := 13) dX3_init_47 ar_int (by decide +kernel) (hz 20 (by decide) (by decide)) rfl rfl rfl rfl rfl rfl ?_
  refine ax_putR (pc' := 52) (tm := [some (.ref 15), some (.ref 16), some (.ref 17), some (.ref 18), some (.ref 19), some Value.null, some Value.null, some Value.null, some Value.null, some Value.null, none, none, none]) dX3_init_49 fp_X3_27 rfl (fun _ => rfl) (fun _ => rfl) (by decide +kernel) rfl rfl rfl ?_
  refine ax_aload_n (pc' := 53) dX3_init_52 rfl rfl ?_
  refine ax_bipush (pc' := 55) (v := (10 : Int32)) dX3_init_53 (by decide) rfl ?_
  refine ax_newI (pc' := 57) (b := 0) (n := 10) dX3_init_55 ar_int (by decide +kernel) (hz 21 (by decide) (by decide)) rfl rfl rfl rfl rfl rfl ?_
  refine ax_putR (pc' := 60) (tm := [some (.ref 15), some (.ref 16), some (.ref 17), some (.ref 18), some (.ref 19), some (.ref 20), some Value.null, some Value.null, some Value.null, some Value.null, none, none, none]) dX3_init_57 fp_X3_30 rfl (fun _ => rfl) (fun _ => rfl) (by decide +kernel) rfl rfl rfl ?_
  refine ax_aload_n (pc' := 61) dX3_init_60 rfl rfl ?_
  refine ax_bipush (pc' := 63) (v := (10 : Int32)) dX3_init_61 (by decide) rfl ?_
  refine ax_newI (pc' := 65) (b := 0) (n := 10) dX3_init_63 ar_int (by decide +kernel) (hz 22 (by decide) (by decide)) rfl rfl rfl rfl rfl rfl ?_
  refine ax_putR (pc' := 68) (tm := [some (.ref 15), some (.ref 16), some (.ref 17), some (.ref 18), some (.ref 19), some (.ref 20), some (.ref 21), some Value.null, some Value.null, some Value.null, none, none, none]) dX3_init_65 fp_X3_33 rfl (fun _ => rfl) (fun _ => rfl) (by decide +kernel) rfl rfl rfl ?_
  refine ax_aload_n (pc' := 69) dX3_init_68 rfl rfl ?_
  refine ax_bipush (pc' := 71) (v := (10 : Int32)) dX3_init_69 (by decide) rfl ?_
  refine ax_newI (pc' := 73) (b := 0) (n := 10) dX3_init_71 ar_int (by decide +kernel) (hz 23 (by decide) (by decide)) rfl rfl rfl rfl rfl rfl ?_
  refine ax_putR (pc' := 76) (tm := [some (.ref 15), some (.ref 16), some (.ref 17), some (.ref 18), some (.ref 19), some (.ref 20), some (.ref 21), some (.ref 22), some Value.null, some Value.null, none, none, none]) dX3_init_73 fp_X3_36 rfl (fun _ => rfl) (fun _ => rfl) (by decide +kernel) rfl rfl rfl ?_
  refine ax_aload_n (pc' := 77) dX3_init_76 rfl rfl ?_
  refine ax_bipush (pc' := 79) (v := (6 : Int32)) dX3_init_77 (by decide) rfl ?_
  refine ax_newI (pc' := 81) (b := 0) (n := 6) dX3_init_79 ar_int (by decide +kernel) (hz 24 (by decide) (by decide)) rfl rfl rfl rfl rfl rfl ?_
  refine ax_putR (pc' := 84) (tm := [some (.ref 15), some (.ref 16), some (.ref 17), some (.ref 18), some (.ref 19), some (.ref 20), some (.ref 21), some (.ref 22), some (.ref 23), some Value.null, none, none, none]) dX3_init_81 fp_X3_39 rfl (fun _ => rfl) (fun _ => rfl) (by decide +kernel) rfl rfl rfl ?_
  refine ax_aload_n (pc' := 85) dX3_init_84 rfl rfl ?_
  refine ax_iconst (pc' := 86) (v := (0 : Int32)) dX3_init_85 (by decide) rfl ?_
  refine ax_put0 (pc' := 89) (tm := [some (.ref 15), some (.ref 16), some (.ref 17), some (.ref 18), some (.ref 19), some (.ref 20), some (.ref 21), some (.ref 22), some (.ref 23), some (.ref 24), none, none, none]) dX3_init_86 fp_X3_42 (by decide +kernel) rfl rfl (hz 14 (by decide) (by decide)) rfl ?_
  refine ax_aload_n (pc' := 90) dX3_init_89 rfl rfl ?_
  refine ax_iconst (pc' := 91) (v := (0 : Int32)) dX3_init_90 (by decide) rfl ?_
  refine ax_put0 (pc' := 94) (tm := [some (.ref 15), some (.ref 16), some (.ref 17), some (.ref 18), some (.ref 19), some (.ref 20), some (.ref 21), some (.ref 22), some (.ref 23), some (.ref 24), none, none, none]) dX3_init_91 fp_X3_46 (by decide +kernel) rfl rfl (hz 14 (by decide) (by decide)) rfl ?_
  refine ax_aload_n (pc' := 95) dX3_init_94 rfl rfl ?_
  refine ax_iconst (pc' := 96) (v := (0 : Int32)) dX3_init_95 (by decide) rfl ?_
  refine ax_put0 (pc' := 99) (tm := [some (.ref 15), some (.ref 16), some (.ref 17), some (.ref 18), some (.ref 19), some (.ref 20), some (.ref 21), some (.ref 22), some (.ref 23), some (.ref 24), none, none, none]) dX3_init_96 fp_X3_49 (by decide +kernel) rfl rfl (hz 14 (by decide) (by decide)) rfl ?_
  refine ax_same (sh' := MX 25 2) (by decide +kernel) ?_
  exact ax_vret dX3_init_99 rfl rfl rfl H
theorem k_X4_25 {g : ac_G} {τ : Nat → Nat → Int64} (d : Nat) {Q : ac_O → ac_W → Prop} {σ : ac_m} (hz : ∀ y, 25 ≤ y → y < 29 → σ y = fun _ => 0) (H : w_X4_setPlain 25 (fun s => Q (.inl none) (true, 29, MX 29 3, s, τ)) σ) : ac_M g i_X4_init (d + 2) 3 308 [.ref 25] (true, 26, MX 25 3, σ, τ) Q := by
  refine ac_ofX (by decide +kernel) rfl rfl rfl ?_
  refine ax_aload_n (pc' := 1) dX4_init_0 rfl rfl ?_
  refine ax_obj0 (pc' := 4) dX4_init_1 oi_X4 oi_2 oi_3 rfl rfl ?_
  refine ax_aload_n (pc' := 5) dX4_init_4 rfl rfl ?_
  refine ax_sipush (pc' := 8) (v := (150 : Int32)) dX4_init_5 (by decide) rfl ?_
  refine ax_newI (pc' := 10) (b := 0) (n := 150) dX4_init_8 ar_int (by decide +kernel) (hz 26 (by decide) (by decide)) rfl rfl rfl rfl rfl rfl ?_
  refine ax_putR (pc' := 13) (tm := [some Value.null, some Value.null, some Value.null, none]) dX4_init_10 fp_X4_9 rfl (fun _ => rfl) (fun _ => rfl) (by decide +kernel) rfl rfl rfl ?_
  refine ax_aload_n (pc' := 14) dX4_init_13 rfl rfl ?_
  refine ax_sipush (pc' := 17) (v := (150 : Int32)) dX4_init_14 (by decide) rfl ?_
  refine ax_newI (pc' := 19) (b := 0) (n := 150) dX4_init_17 ar_int (by decide +kernel) (hz 27 (by decide) (by decide)) rfl rfl rfl rfl rfl rfl ?_
  refine ax_putR (pc' := 22) (tm := [some (.ref 26), some Value.null, some Value.null, none]) dX4_init_19 fp_X4_15 rfl (fun _ => rfl) (fun _ => rfl) (by decide +kernel) rfl rfl rfl ?_
  refine ax_aload_n (pc' := 23) dX4_init_22 rfl rfl ?_
  refine ax_bipush (pc' := 25) (v := (8 : Int32)) dX4_init_23 (by decide) rfl ?_
  refine ax_newI (pc' := 27) (b := 0) (n := 8) dX4_init_25 ar_int (by decide +kernel) (hz 28 (by decide) (by decide)) rfl rfl rfl rfl rfl rfl ?_
  refine ax_putR (pc' := 30) (tm := [some (.ref 26), some (.ref 27), some Value.null, none]) dX4_init_27 fp_X4_18 rfl (fun _ => rfl) (fun _ => rfl) (by decide +kernel) rfl rfl rfl ?_
  refine ax_aload_n (pc' := 31) dX4_init_30 rfl rfl ?_
  refine ax_iconst (pc' := 32) (v := (0 : Int32)) dX4_init_31 (by decide) rfl ?_
  refine ax_put0 (pc' := 35) (tm := [some (.ref 26), some (.ref 27), some (.ref 28), none]) dX4_init_32 fp_X4_21 (by decide +kernel) rfl rfl (hz 25 (by decide) (by decide)) rfl ?_
  refine ax_aload_n (pc' := 36) dX4_init_35 rfl rfl ?_
  refine ax_same (sh' := MX 29 3) (by decide +kernel) ?_
  refine ay_V0 (pc' := 39) (ce' := 3) (sl' := 308) (mc2 := 0) (ms2 := 0) (I2 := i_X4_setPlain) dX4_init_36 ml_X4_25 (show MX 29 3 25 = .inr (4, [some (.ref 26), some (.ref 27), some (.ref 28), none]) by decide +kernel) (by decide) rfl rfl rfl rfl rfl rfl rfl rfl rfl (ac_M.imp (p_X4_setPlain (sh := MX 29 3) (N := 29) _ 25 (show MX 29 3 25 = .inr (4, [some (.ref 26), some (.ref 27), some (.ref 28), none]) by decide +kernel) (show MX 29 3 26 = .inl (0, 150, 0) by decide +kernel) rfl rfl H) ?_)
  rintro _ _ ⟨s5, rfl, rfl, H⟩
  exact ax_vret dX4_init_39 rfl rfl rfl H
theorem k_X4_29 {g : ac_G} {τ : Nat → Nat → Int64} (d : Nat) {Q : ac_O → ac_W → Prop} {σ : ac_m} (hz : ∀ y, 29 ≤ y → y < 33 → σ y = fun _ => 0) (H : w_X4_setPlain 29 (fun s => Q (.inl none) (true, 33, MX 33 4, s, τ)) σ) : ac_M g i_X4_init (d + 2) 3 308 [.ref 29] (true, 30, MX 29 4, σ, τ) Q := by
  refine ac_ofX (by decide +kernel) rfl rfl rfl ?_
  refine ax_aload_n (pc' := 1) dX4_init_0 rfl rfl ?_
  refine ax_obj0 (pc' := 4) dX4_init_1 oi_X4 oi_2 oi_3 rfl rfl ?_
  refine ax_aload_n (pc' := 5) dX4_init_4 rfl rfl ?_
  refine ax_sipush (pc' := 8) (v := (150 : Int32)) dX4_init_5 (by decide) rfl ?_
  refine ax_newI (pc' := 10) (b := 0) (n := 150) dX4_init_8 ar_int (by decide +kernel) (hz 30 (by decide) (by decide)) rfl rfl rfl rfl rfl rfl ?_
  refine ax_putR (pc' := 13) (tm := [some Value.null, some Value.null, some Value.null, none]) dX4_init_10 fp_X4_9 rfl (fun _ => rfl) (fun _ => rfl) (by decide +kernel) rfl rfl rfl ?_
  refine ax_aload_n (pc' := 14) dX4_init_13 rfl rfl ?_
  refine ax_sipush (pc' := 17) (v := (150 : Int32)) dX4_init_14 (by decide) rfl ?_
  refine ax_newI (pc' := 19) (b := 0) (n := 150) dX4_init_17 ar_int (by decide +kernel) (hz 31 (by decide) (by decide)) rfl rfl rfl rfl rfl rfl ?_
  refine ax_putR (pc' := 22) (tm := [some (.ref 30), some Value.null, some Value.null, none]) dX4_init_19 fp_X4_15 rfl (fun _ => rfl) (fun _ => rfl) (by decide +kernel) rfl rfl rfl ?_
  refine ax_aload_n (pc' := 23) dX4_init_22 rfl rfl ?_
  refine ax_bipush (pc' := 25) (v := (8 : Int32)) dX4_init_23 (by decide) rfl ?_
  refine ax_newI (pc' := 27) (b := 0) (n := 8) dX4_init_25 ar_int (by decide +kernel) (hz 32 (by decide) (by decide)) rfl rfl rfl rfl rfl rfl ?_
  refine ax_putR (pc' := 30) (tm := [some (.ref 30), some (.ref 31), some Value.null, none]) dX4_init_27 fp_X4_18 rfl (fun _ => rfl) (fun _ => rfl) (by decide +kernel) rfl rfl rfl ?_
  refine ax_aload_n (pc' := 31) dX4_init_30 rfl rfl ?_
  refine ax_iconst (pc' := 32) (v := (0 : Int32)) dX4_init_31 (by decide) rfl ?_
  refine ax_put0 (pc' := 35) (tm := [some (.ref 30), some (.ref 31), some (.ref 32), none]) dX4_init_32 fp_X4_21 (by decide +kernel) rfl rfl (hz 29 (by decide) (by decide)) rfl ?_
  refine ax_aload_n (pc' := 36) dX4_init_35 rfl rfl ?_
  refine ax_same (sh' := MX 33 4) (by decide +kernel) ?_
  refine ay_V0 (pc' := 39) (ce' := 3) (sl' := 308) (mc2 := 0) (ms2 := 0) (I2 := i_X4_setPlain) dX4_init_36 ml_X4_25 (show MX 33 4 29 = .inr (4, [some (.ref 30), some (.ref 31), some (.ref 32), none]) by decide +kernel) (by decide) rfl rfl rfl rfl rfl rfl rfl rfl rfl (ac_M.imp (p_X4_setPlain (sh := MX 33 4) (N := 33) _ 29 (show MX 33 4 29 = .inr (4, [some (.ref 30), some (.ref 31), some (.ref 32), none]) by decide +kernel) (show MX 33 4 30 = .inl (0, 150, 0) by decide +kernel) rfl rfl H) ?_)
  rintro _ _ ⟨s5, rfl, rfl, H⟩
  exact ax_vret dX4_init_39 rfl rfl rfl H
theorem k_X0_33 {g : ac_G} {τ : Nat → Nat → Int64} (d : Nat) {Q : ac_O → ac_W → Prop} {σ : ac_m} (hz : ∀ y, 33 ≤ y → y < 35 → σ y = fun _ => 0) (H : w_X0_clear 33 (fun s => Q (.inl none) (true, 35, MX 35 5, s, τ)) σ) : ac_M g i_X0_init (d + 2) 1 13 [.ref 33] (true, 34, MX 33 5, σ, τ) Q := by
  refine ac_ofX (by decide +kernel) rfl rfl rfl ?_
  refine ax_aload_n (pc' := 1) dX0_init_0 rfl rfl ?_
  refine ax_obj0 (pc' := 4) dX0_init_1 oi_X0 oi_2 oi_3 rfl rfl ?_
  refine ax_aload_n (pc' := 5) dX0_init_4 rfl rfl ?_
  refine ax_bipush (pc' := 7) (v := (13 : Int32)) dX0_init_5 (by decide) rfl ?_
  refine ax_newI (pc' := 9) (b := 0) (n := 13) dX0_init_7 ar_int (by decide +kernel) (hz 34 (by decide) (by decide)) rfl rfl rfl rfl rfl rfl ?_
  refine ax_putR (pc' := 12) (tm := [some Value.null, none]) dX0_init_9 fp_X0_9 rfl (fun _ => rfl) (fun _ => rfl) (by decide +kernel) rfl rfl rfl ?_
  refine ax_aload_n (pc' := 13) dX0_init_12 rfl rfl ?_
  refine ax_iconst (pc' := 14) (v := (0 : Int32)) dX0_init_13 (by decide) rfl ?_
  refine ax_put0 (pc' := 17) (tm := [some (.ref 34), none]) dX0_init_14 fp_X0_15 (by decide +kernel) rfl rfl (hz 33 (by decide) (by decide)) rfl ?_
  refine ax_aload_n (pc' := 18) dX0_init_17 rfl rfl ?_
  refine ax_same (sh' := MX 35 5) (by decide +kernel) ?_
  refine ay_V0 (pc' := 21) (ce' := 1) (sl' := 13) (mc2 := 0) (ms2 := 0) (I2 := i_X0_clear) dX0_init_18 ml_X0_19 (show MX 35 5 33 = .inr (0, [some (.ref 34), none]) by decide +kernel) (by decide) rfl rfl rfl rfl rfl rfl rfl rfl rfl (ac_M.imp (p_X0_clear (sh := MX 35 5) (N := 35) _ 33 (show MX 35 5 33 = .inr (0, [some (.ref 34), none]) by decide +kernel) (show MX 35 5 34 = .inl (0, 13, 0) by decide +kernel) rfl rfl H) ?_)
  rintro _ _ ⟨s5, rfl, rfl, H⟩
  exact ax_vret dX0_init_21 rfl rfl rfl H
theorem k_X0_35 {g : ac_G} {τ : Nat → Nat → Int64} (d : Nat) {Q : ac_O → ac_W → Prop} {σ : ac_m} (hz : ∀ y, 35 ≤ y → y < 37 → σ y = fun _ => 0) (H : w_X0_clear 35 (fun s => Q (.inl none) (true, 37, MX 37 6, s, τ)) σ) : ac_M g i_X0_init (d + 2) 1 13 [.ref 35] (true, 36, MX 35 6, σ, τ) Q := by
  refine ac_ofX (by decide +kernel) rfl rfl rfl ?_
  refine ax_aload_n (pc' := 1) dX0_init_0 rfl rfl ?_
  refine ax_obj0 (pc' := 4) dX0_init_1 oi_X0 oi_2 oi_3 rfl rfl ?_
  refine ax_aload_n (pc' := 5) dX0_init_4 rfl rfl ?_
  refine ax_bipush (pc' := 7) (v := (13 : Int32)) dX0_init_5 (by decide) rfl ?_
  refine ax_newI (pc' := 9) (b := 0) (n := 13) dX0_init_7 ar_int (by decide +kernel) (hz 36 (by decide) (by decide)) rfl rfl rfl rfl rfl rfl ?_
  refine ax_putR (pc' := 12) (tm := [some Value.null, none]) dX0_init_9 fp_X0_9 rfl (fun _ => rfl) (fun _ => rfl) (by decide +kernel) rfl rfl rfl ?_
  refine ax_aload_n (pc' := 13) dX0_init_12 rfl rfl ?_
  refine ax_iconst (pc' := 14) (v := (0 : Int32)) dX0_init_13 (by decide) rfl ?_
  refine ax_put0 (pc' := 17) (tm := [some (.ref 36), none]) dX0_init_14 fp_X0_15 (by decide +kernel) rfl rfl (hz 35 (by decide) (by decide)) rfl ?_
  refine ax_aload_n (pc' := 18) dX0_init_17 rfl rfl ?_
  refine ax_same (sh' := MX 37 6) (by decide +kernel) ?_
  refine ay_V0 (pc' := 21) (ce' := 1) (sl' := 13) (mc2 := 0) (ms2 := 0) (I2 := i_X0_clear) dX0_init_18 ml_X0_19 (show MX 37 6 35 = .inr (0, [some (.ref 36), none]) by decide +kernel) (by decide) rfl rfl rfl rfl rfl rfl rfl rfl rfl (ac_M.imp (p_X0_clear (sh := MX 37 6) (N := 37) _ 35 (show MX 37 6 35 = .inr (0, [some (.ref 36), none]) by decide +kernel) (show MX 37 6 36 = .inl (0, 13, 0) by decide +kernel) rfl rfl H) ?_)
  rintro _ _ ⟨s5, rfl, rfl, H⟩
  exact ax_vret dX0_init_21 rfl rfl rfl H
theorem k_X7_37 {g : ac_G} {τ : Nat → Nat → Int64} (d : Nat) {Q : ac_O → ac_W → Prop} {σ : ac_m} (hz : ∀ y, 37 ≤ y → y < 42 → σ y = fun _ => 0) (H : Q (.inl none) (true, 42, MX 42 7, σ, τ)) : ac_M g i_X7_init d 4 600 [.ref 37] (true, 38, MX 37 7, σ, τ) Q := by
  refine ac_ofX (by decide +kernel) rfl rfl rfl ?_
  refine ax_aload_n (pc' := 1) dX7_init_0 rfl rfl ?_
  refine ax_obj0 (pc' := 4) dX7_init_1 oi_X7 oi_2 oi_3 rfl rfl ?_
  refine ax_aload_n (pc' := 5) dX7_init_4 rfl rfl ?_
  refine ax_sipush (pc' := 8) (v := (150 : Int32)) dX7_init_5 (by decide) rfl ?_
  refine ax_newI (pc' := 10) (b := 0) (n := 150) dX7_init_8 ar_int (by decide +kernel) (hz 38 (by decide) (by decide)) rfl rfl rfl rfl rfl rfl ?_
  refine ax_putR (pc' := 13) (tm := [some Value.null, some Value.null, some Value.null, some Value.null, none, none, none, none]) dX7_init_10 fp_X7_9 rfl (fun _ => rfl) (fun _ => rfl) (by decide +kernel) rfl rfl rfl ?_
  refine ax_aload_n (pc' := 14) dX7_init_13 rfl rfl ?_
  refine ax_sipush (pc' := 17) (v := (150 : Int32)) dX7_init_14 (by decide) rfl ?_
  refine ax_newI (pc' := 19) (b := 0) (n := 150) dX7_init_17 ar_int (by decide +kernel) (hz 39 (by decide) (by decide)) rfl rfl rfl rfl rfl rfl ?_
  refine ax_putR (pc' := 22) (tm := [some (.ref 38), some Value.null, some Value.null, some Value.null, none, none, none, none]) dX7_init_19 fp_X7_15 rfl (fun _ => rfl) (fun _ => rfl) (by decide +kernel) rfl rfl rfl ?_
  refine ax_aload_n (pc' := 23) dX7_init_22 rfl rfl ?_
  refine ax_sipush (pc' := 26) (v := (150 : Int32)) dX7_init_23 (by decide) rfl ?_
  refine ax_newI (pc' := 28) (b := 0) (n := 150) dX7_init_26 ar_int (by decide +kernel) (hz 40 (by decide) (by decide)) rfl rfl rfl rfl rfl rfl ?_
  refine ax_putR (pc' := 31) (tm := [some (.ref 38), some (.ref 39), some Value.null, some Value.null, none, none, none, none]) dX7_init_28 fp_X7_18 rfl (fun _ => rfl) (fun _ => rfl) (by decide +kernel) rfl rfl rfl ?_
  refine ax_aload_n (pc' := 32) dX7_init_31 rfl rfl ?_
  refine ax_sipush (pc' := 35) (v := (150 : Int32)) dX7_init_32 (by decide) rfl ?_
  refine ax_newI (pc' := 37) (b := 0) (n := 150) dX7_init_35 ar_int (by decide +kernel) (hz 41 (by decide) (by decide)) rfl rfl rfl rfl rfl rfl ?_
  refine ax_putR (pc' := 40) (tm := [some (.ref 38), some (.ref 39), some (.ref 40), some Value.null, none, none, none, none]) dX7_init_37 fp_X7_21 rfl (fun _ => rfl) (fun _ => rfl) (by decide +kernel) rfl rfl rfl ?_
  refine ax_aload_n (pc' := 41) dX7_init_40 rfl rfl ?_
  refine ax_iconst (pc' := 42) (v := (0 : Int32)) dX7_init_41 (by decide) rfl ?_
  refine ax_put0 (pc' := 45) (tm := [some (.ref 38), some (.ref 39), some (.ref 40), some (.ref 41), none, none, none, none]) dX7_init_42 fp_X7_24 (by decide +kernel) rfl rfl (hz 37 (by decide) (by decide)) rfl ?_
  refine ax_aload_n (pc' := 46) dX7_init_45 rfl rfl ?_
  refine ax_iconst (pc' := 47) (v := (0 : Int32)) dX7_init_46 (by decide) rfl ?_
  refine ax_put0 (pc' := 50) (tm := [some (.ref 38), some (.ref 39), some (.ref 40), some (.ref 41), none, none, none, none]) dX7_init_47 fp_X7_28 (by decide +kernel) rfl rfl (hz 37 (by decide) (by decide)) rfl ?_
  refine ax_aload_n (pc' := 51) dX7_init_50 rfl rfl ?_
  refine ax_iconst (pc' := 52) (v := (0 : Int32)) dX7_init_51 (by decide) rfl ?_
  refine ax_put0 (pc' := 55) (tm := [some (.ref 38), some (.ref 39), some (.ref 40), some (.ref 41), none, none, none, none]) dX7_init_52 fp_X7_31 (by decide +kernel) rfl rfl (hz 37 (by decide) (by decide)) rfl ?_
  refine ax_aload_n (pc' := 56) dX7_init_55 rfl rfl ?_
  refine ax_iconst (pc' := 57) (v := (0 : Int32)) dX7_init_56 (by decide) rfl ?_
  refine ax_put0 (pc' := 60) (tm := [some (.ref 38), some (.ref 39), some (.ref 40), some (.ref 41), none, none, none, none]) dX7_init_57 fp_X7_34 (by decide +kernel) rfl rfl (hz 37 (by decide) (by decide)) rfl ?_
  refine ax_same (sh' := MX 42 7) (by decide +kernel) ?_
  exact ax_vret dX7_init_60 rfl rfl rfl H
theorem k_X5_42 {g : ac_G} {τ : Nat → Nat → Int64} (d : Nat) {Q : ac_O → ac_W → Prop} {σ : ac_m} (hz : ∀ y, 42 ≤ y → y < 50 → σ y = fun _ => 0) (H : w_J7_fill_53178 45 13 (-1) (fun s => Q (.inl none) (true, 50, MX 50 8, s, τ)) σ) : ac_M g i_X5_init (d + 1) 7 100 [.ref 42, .ref 3, .ref 25] (true, 43, MX 42 8, σ, τ) Q := by
  refine ac_ofX (by decide +kernel) rfl rfl rfl ?_
  refine ax_aload_n (pc' := 1) dX5_init_0 rfl rfl ?_
  refine ax_obj0 (pc' := 4) dX5_init_1 oi_X5 oi_2 oi_3 rfl rfl ?_
  refine ax_aload_n (pc' := 5) dX5_init_4 rfl rfl ?_
  refine ax_bipush (pc' := 7) (v := (6 : Int32)) dX5_init_5 (by decide) rfl ?_
  refine ax_newI (pc' := 9) (b := 0) (n := 6) dX5_init_7 ar_int (by decide +kernel) (hz 43 (by decide) (by decide)) rfl rfl rfl rfl rfl rfl ?_
  refine ax_putR (pc' := 12) (tm := [some Value.null, some Value.null, some Value.null, some Value.null, some Value.null, some Value.null, some Value.null, some Value.null, some Value.null, none, none, none]) dX5_init_9 fp_X5_9 rfl (fun _ => rfl) (fun _ => rfl) (by decide +kernel) rfl rfl rfl ?_
  refine ax_aload_n (pc' := 13) dX5_init_12 rfl rfl ?_
  refine ax_bipush (pc' := 15) (v := (13 : Int32)) dX5_init_13 (by decide) rfl ?_
  refine ax_newI (pc' := 17) (b := 0) (n := 13) dX5_init_15 ar_int (by decide +kernel) (hz 44 (by decide) (by decide)) rfl rfl rfl rfl rfl rfl ?_
  refine ax_putR (pc' := 20) (tm := [some Value.null, some Value.null, some (.ref 43), some Value.null, some Value.null, some Value.null, some Value.null, some Value.null, some Value.null, none, none, none]) dX5_init_17 fp_X5_15 rfl (fun _ => rfl) (fun _ => rfl) (by decide +kernel) rfl rfl rfl ?_
  refine ax_aload_n (pc' := 21) dX5_init_20 rfl rfl ?_
  refine ax_bipush (pc' := 23) (v := (13 : Int32)) dX5_init_21 (by decide) rfl ?_
  refine ax_newI (pc' := 25) (b := 0) (n := 13) dX5_init_23 ar_int (by decide +kernel) (hz 45 (by decide) (by decide)) rfl rfl rfl rfl rfl rfl ?_
  refine ax_putR (pc' := 28) (tm := [some Value.null, some Value.null, some (.ref 43), some (.ref 44), some Value.null, some Value.null, some Value.null, some Value.null, some Value.null, none, none, none]) dX5_init_25 fp_X5_18 rfl (fun _ => rfl) (fun _ => rfl) (by decide +kernel) rfl rfl rfl ?_
  refine ax_aload_n (pc' := 29) dX5_init_28 rfl rfl ?_
  refine ax_bipush (pc' := 31) (v := (13 : Int32)) dX5_init_29 (by decide) rfl ?_
  refine ax_newI (pc' := 33) (b := 0) (n := 13) dX5_init_31 ar_int (by decide +kernel) (hz 46 (by decide) (by decide)) rfl rfl rfl rfl rfl rfl ?_
  refine ax_putR (pc' := 36) (tm := [some Value.null, some Value.null, some (.ref 43), some (.ref 44), some (.ref 45), some Value.null, some Value.null, some Value.null, some Value.null, none, none, none]) dX5_init_33 fp_X5_21 rfl (fun _ => rfl) (fun _ => rfl) (by decide +kernel) rfl rfl rfl ?_
  refine ax_aload_n (pc' := 37) dX5_init_36 rfl rfl ?_
  refine ax_bipush (pc' := 39) (v := (36 : Int32)) dX5_init_37 (by decide) rfl ?_
  refine ax_newI (pc' := 41) (b := 0) (n := 36) dX5_init_39 ar_int (by decide +kernel) (hz 47 (by decide) (by decide)) rfl rfl rfl rfl rfl rfl ?_
  refine ax_putR (pc' := 44) (tm := [some Value.null, some Value.null, some (.ref 43), some (.ref 44), some (.ref 45), some (.ref 46), some Value.null, some Value.null, some Value.null, none, none, none]) dX5_init_41 fp_X5_24 rfl (fun _ => rfl) (fun _ => rfl) (by decide +kernel) rfl rfl rfl ?_
  refine ax_aload_n (pc' := 45) dX5_init_44 rfl rfl ?_
  refine ax_bipush (pc' := 47) (v := (6 : Int32)) dX5_init_45 (by decide) rfl ?_
  refine ax_newI (pc' := 49) (b := 0) (n := 6) dX5_init_47 ar_int (by decide +kernel) (hz 48 (by decide) (by decide)) rfl rfl rfl rfl rfl rfl ?_
  refine ax_putR (pc' := 52) (tm := [some Value.null, some Value.null, some (.ref 43), some (.ref 44), some (.ref 45), some (.ref 46), some (.ref 47), some Value.null, some Value.null, none, none, none]) dX5_init_49 fp_X5_27 rfl (fun _ => rfl) (fun _ => rfl) (by decide +kernel) rfl rfl rfl ?_
  refine ax_aload_n (pc' := 53) dX5_init_52 rfl rfl ?_
  refine ax_bipush (pc' := 55) (v := (13 : Int32)) dX5_init_53 (by decide) rfl ?_
  refine ax_newI (pc' := 57) (b := 0) (n := 13) dX5_init_55 ar_int (by decide +kernel) (hz 49 (by decide) (by decide)) rfl rfl rfl rfl rfl rfl ?_
  refine ax_putR (pc' := 60) (tm := [some Value.null, some Value.null, some (.ref 43), some (.ref 44), some (.ref 45), some (.ref 46), some (.ref 47), some (.ref 48), some Value.null, none, none, none]) dX5_init_57 fp_X5_30 rfl (fun _ => rfl) (fun _ => rfl) (by decide +kernel) rfl rfl rfl ?_
  refine ax_aload_n (pc' := 61) dX5_init_60 rfl rfl ?_
  refine ax_iconst (pc' := 62) (v := (0 : Int32)) dX5_init_61 (by decide) rfl ?_
  refine ax_put0 (pc' := 65) (tm := [some Value.null, some Value.null, some (.ref 43), some (.ref 44), some (.ref 45), some (.ref 46), some (.ref 47), some (.ref 48), some (.ref 49), none, none, none]) dX5_init_62 fp_X5_33 (by decide +kernel) rfl rfl (hz 42 (by decide) (by decide)) rfl ?_
  refine ax_aload_n (pc' := 66) dX5_init_65 rfl rfl ?_
  refine ax_iconst (pc' := 67) (v := (0 : Int32)) dX5_init_66 (by decide) rfl ?_
  refine ax_put0 (pc' := 70) (tm := [some Value.null, some Value.null, some (.ref 43), some (.ref 44), some (.ref 45), some (.ref 46), some (.ref 47), some (.ref 48), some (.ref 49), none, none, none]) dX5_init_67 fp_X5_37 (by decide +kernel) rfl rfl (hz 42 (by decide) (by decide)) rfl ?_
  refine ax_aload_n (pc' := 71) dX5_init_70 rfl rfl ?_
  refine ax_iconst (pc' := 72) (v := (0 : Int32)) dX5_init_71 (by decide) rfl ?_
  refine ax_put0 (pc' := 75) (tm := [some Value.null, some Value.null, some (.ref 43), some (.ref 44), some (.ref 45), some (.ref 46), some (.ref 47), some (.ref 48), some (.ref 49), none, none, none]) dX5_init_72 fp_X5_40 (by decide +kernel) rfl rfl (hz 42 (by decide) (by decide)) rfl ?_
  refine ax_aload_n (pc' := 76) dX5_init_75 rfl rfl ?_
  refine ax_aload_n (pc' := 77) dX5_init_76 rfl rfl ?_
  refine ax_putR (pc' := 80) (tm := [some Value.null, some Value.null, some (.ref 43), some (.ref 44), some (.ref 45), some (.ref 46), some (.ref 47), some (.ref 48), some (.ref 49), none, none, none]) dX5_init_77 fp_X5_43 rfl (fun _ => rfl) (fun _ => rfl) (by decide +kernel) rfl rfl rfl ?_
  refine ax_aload_n (pc' := 81) dX5_init_80 rfl rfl ?_
  refine ax_aload_n (pc' := 82) dX5_init_81 rfl rfl ?_
  refine ax_putR (pc' := 85) (tm := [some (.ref 3), some Value.null, some (.ref 43), some (.ref 44), some (.ref 45), some (.ref 46), some (.ref 47), some (.ref 48), some (.ref 49), none, none, none]) dX5_init_82 fp_X5_47 rfl (fun _ => rfl) (fun _ => rfl) (by decide +kernel) rfl rfl rfl ?_
  refine ax_aload_n (pc' := 86) dX5_init_85 rfl rfl ?_
  refine ax_same (sh' := MX 50 8) (by decide +kernel) ?_
  refine ax_getR (pc' := 89) (tm := [some (.ref 3), some (.ref 25), some (.ref 43), some (.ref 44), some (.ref 45), some (.ref 46), some (.ref 47), some (.ref 48), some (.ref 49), none, none, none]) dX5_init_86 fl_X5_18 (by decide +kernel) rfl rfl rfl ?_
  refine ax_iconst (pc' := 90) (v := (-1 : Int32)) dX5_init_89 (by decide) rfl ?_
  refine ay_S2 (pc' := 93) (ce' := 7) (sl' := 100) (mc2 := 0) (ms2 := 0) (I2 := i_J7_fill_53178) dX5_init_90 ml_X5_51 rfl rfl rfl rfl rfl rfl rfl rfl (ac_M.imp (p_J7_fill_53178 _ 45 13 (-1 : Int32) (by decide +kernel) rfl H) ?_)
  rintro _ _ ⟨s5, rfl, rfl, H⟩
  exact ax_vret dX5_init_93 rfl rfl rfl H
theorem k_X5_50 {g : ac_G} {τ : Nat → Nat → Int64} (d : Nat) {Q : ac_O → ac_W → Prop} {σ : ac_m} (hz : ∀ y, 50 ≤ y → y < 58 → σ y = fun _ => 0) (H : w_J7_fill_53178 53 13 (-1) (fun s => Q (.inl none) (true, 58, MX 58 9, s, τ)) σ) : ac_M g i_X5_init (d + 1) 7 100 [.ref 50, .ref 3, .ref 25] (true, 51, MX 50 9, σ, τ) Q := by
  refine ac_ofX (by decide +kernel) rfl rfl rfl ?_
  refine ax_aload_n (pc' := 1) dX5_init_0 rfl rfl ?_
  refine ax_obj0 (pc' := 4) dX5_init_1 oi_X5 oi_2 oi_3 rfl rfl ?_
  refine ax_aload_n (pc' := 5) dX5_init_4 rfl rfl ?_
  refine ax_bipush (pc' := 7) (v := (6 : Int32)) dX5_init_5 (by decide) rfl ?_
  refine ax_newI (pc' := 9) (b := 0) (n := 6) dX5_init_7 ar_int (by decide +kernel) (hz 51 (by decide) (by decide)) rfl rfl rfl rfl rfl rfl ?_
  refine ax_putR (pc' := 12) (tm := [some Value.null, some Value.null, some Value.null, some Value.null, some Value.null, some Value.null, some Value.null, some Value.null, some Value.null, none, none, none]) dX5_init_9 fp_X5_9 rfl (fun _ => rfl) (fun _ => rfl) (by decide +kernel) rfl rfl rfl ?_
  refine ax_aload_n (pc' := 13) dX5_init_12 rfl rfl ?_
  refine ax_bipush (pc' := 15) (v := (13 : Int32)) dX5_init_13 (by decide) rfl ?_
  refine ax_newI (pc' := 17) (b := 0) (n := 13) dX5_init_15 ar_int (by decide +kernel) (hz 52 (by decide) (by decide)) rfl rfl rfl rfl rfl rfl ?_
  refine ax_putR (pc' := 20) (tm := [some Value.null, some Value.null, some (.ref 51), some Value.null, some Value.null, some Value.null, some Value.null, some Value.null, some Value.null, none, none, none]) dX5_init_17 fp_X5_15 rfl (fun _ => rfl) (fun _ => rfl) (by decide +kernel) rfl rfl rfl ?_
  refine ax_aload_n (pc' := 21) dX5_init_20 rfl rfl ?_
  refine ax_bipush (pc' := 23) (v := (13 : Int32)) dX5_init_21 (by decide) rfl ?_
  refine ax_newI (pc' := 25) (b := 0) (n := 13) dX5_init_23 ar_int (by decide +kernel) (hz 53 (by decide) (by decide)) rfl rfl rfl rfl rfl rfl ?_
  refine ax_putR (pc' := 28) (tm := [some Value.null, some Value.null, some (.ref 51), some (.ref 52), some Value.null, some Value.null, some Value.null, some Value.null, some Value.null, none, none, none]) dX5_init_25 fp_X5_18 rfl (fun _ => rfl) (fun _ => rfl) (by decide +kernel) rfl rfl rfl ?_
  refine ax_aload_n (pc' := 29) dX5_init_28 rfl rfl ?_
  refine ax_bipush (pc' := 31) (v := (13 : Int32)) dX5_init_29 (by decide) rfl ?_
  refine ax_newI (pc' := 33) (b := 0) (n := 13) dX5_init_31 ar_int (by decide +kernel) (hz 54 (by decide) (by decide)) rfl rfl rfl rfl rfl rfl ?_
  refine ax_putR (pc' := 36) (tm := [some Value.null, some Value.null, some (.ref 51), some (.ref 52), some (.ref 53), some Value.null, some Value.null, some Value.null, some Value.null, none, none, none]) dX5_init_33 fp_X5_21 rfl (fun _ => rfl) (fun _ => rfl) (by decide +kernel) rfl rfl rfl ?_
  refine ax_aload_n (pc' := 37) dX5_init_36 rfl rfl ?_
  refine ax_bipush (pc' := 39) (v := (36 : Int32)) dX5_init_37 (by decide) rfl ?_
  refine ax_newI (pc' := 41) (b := 0) (n := 36) dX5_init_39 ar_int (by decide +kernel) (hz 55 (by decide) (by decide)) rfl rfl rfl rfl rfl rfl ?_
  refine ax_putR (pc' := 44) (tm := [some Value.null, some Value.null, some (.ref 51), some (.ref 52), some (.ref 53), some (.ref 54), some Value.null, some Value.null, some Value.null, none, none, none]) dX5_init_41 fp_X5_24 rfl (fun _ => rfl) (fun _ => rfl) (by decide +kernel) rfl rfl rfl ?_
  refine ax_aload_n (pc' := 45) dX5_init_44 rfl rfl ?_
  refine ax_bipush (pc' := 47) (v := (6 : Int32)) dX5_init_45 (by decide) rfl ?_
  refine ax_newI (pc' := 49) (b := 0) (n := 6) dX5_init_47 ar_int (by decide +kernel) (hz 56 (by decide) (by decide)) rfl rfl rfl rfl rfl rfl ?_
  refine ax_putR (pc' := 52) (tm := [some Value.null, some Value.null, some (.ref 51), some (.ref 52), some (.ref 53), some (.ref 54), some (.ref 55), some Value.null, some Value.null, none, none, none]) dX5_init_49 fp_X5_27 rfl (fun _ => rfl) (fun _ => rfl) (by decide +kernel) rfl rfl rfl ?_
  refine ax_aload_n (pc' := 53) dX5_init_52 rfl rfl ?_
  refine ax_bipush (pc' := 55) (v := (13 : Int32)) dX5_init_53 (by decide) rfl ?_
  refine ax_newI (pc' := 57) (b := 0) (n := 13) dX5_init_55 ar_int (by decide +kernel) (hz 57 (by decide) (by decide)) rfl rfl rfl rfl rfl rfl ?_
  refine ax_putR (pc' := 60) (tm := [some Value.null, some Value.null, some (.ref 51), some (.ref 52), some (.ref 53), some (.ref 54), some (.ref 55), some (.ref 56), some Value.null, none, none, none]) dX5_init_57 fp_X5_30 rfl (fun _ => rfl) (fun _ => rfl) (by decide +kernel) rfl rfl rfl ?_
  refine ax_aload_n (pc' := 61) dX5_init_60 rfl rfl ?_
  refine ax_iconst (pc' := 62) (v := (0 : Int32)) dX5_init_61 (by decide) rfl ?_
  refine ax_put0 (pc' := 65) (tm := [some Value.null, some Value.null, some (.ref 51), some (.ref 52), some (.ref 53), some (.ref 54), some (.ref 55), some (.ref 56), some (.ref 57), none, none, none]) dX5_init_62 fp_X5_33 (by decide +kernel) rfl rfl (hz 50 (by decide) (by decide)) rfl ?_
  refine ax_aload_n (pc' := 66) dX5_init_65 rfl rfl ?_
  refine ax_iconst (pc' := 67) (v := (0 : Int32)) dX5_init_66 (by decide) rfl ?_
  refine ax_put0 (pc' := 70) (tm := [some Value.null, some Value.null, some (.ref 51), some (.ref 52), some (.ref 53), some (.ref 54), some (.ref 55), some (.ref 56), some (.ref 57), none, none, none]) dX5_init_67 fp_X5_37 (by decide +kernel) rfl rfl (hz 50 (by decide) (by decide)) rfl ?_
  refine ax_aload_n (pc' := 71) dX5_init_70 rfl rfl ?_
  refine ax_iconst (pc' := 72) (v := (0 : Int32)) dX5_init_71 (by decide) rfl ?_
  refine ax_put0 (pc' := 75) (tm := [some Value.null, some Value.null, some (.ref 51), some (.ref 52), some (.ref 53), some (.ref 54), some (.ref 55), some (.ref 56), some (.ref 57), none, none, none]) dX5_init_72 fp_X5_40 (by decide +kernel) rfl rfl (hz 50 (by decide) (by decide)) rfl ?_
  refine ax_aload_n (pc' := 76) dX5_init_75 rfl rfl ?_
  refine ax_aload_n (pc' := 77) dX5_init_76 rfl rfl ?_
  refine ax_putR (pc' := 80) (tm := [some Value.null, some Value.null, some (.ref 51), some (.ref 52), some (.ref 53), some (.ref 54), some (.ref 55), some (.ref 56), some (.ref 57), none, none, none]) dX5_init_77 fp_X5_43 rfl (fun _ => rfl) (fun _ => rfl) (by decide +kernel) rfl rfl rfl ?_
  refine ax_aload_n (pc' := 81) dX5_init_80 rfl rfl ?_
  refine ax_aload_n (pc' := 82) dX5_init_81 rfl rfl ?_
  refine ax_putR (pc' := 85) (tm := [some (.ref 3), some Value.null, some (.ref 51), some (.ref 52), some (.ref 53), some (.ref 54), some (.ref 55), some (.ref 56), some (.ref 57), none, none, none]) dX5_init_82 fp_X5_47 rfl (fun _ => rfl) (fun _ => rfl) (by decide +kernel) rfl rfl rfl ?_
  refine ax_aload_n (pc' := 86) dX5_init_85 rfl rfl ?_
  refine ax_same (sh' := MX 58 9) (by decide +kernel) ?_
  refine ax_getR (pc' := 89) (tm := [some (.ref 3), some (.ref 25), some (.ref 51), some (.ref 52), some (.ref 53), some (.ref 54), some (.ref 55), some (.ref 56), some (.ref 57), none, none, none]) dX5_init_86 fl_X5_18 (by decide +kernel) rfl rfl rfl ?_
  refine ax_iconst (pc' := 90) (v := (-1 : Int32)) dX5_init_89 (by decide) rfl ?_
  refine ay_S2 (pc' := 93) (ce' := 7) (sl' := 100) (mc2 := 0) (ms2 := 0) (I2 := i_J7_fill_53178) dX5_init_90 ml_X5_51 rfl rfl rfl rfl rfl rfl rfl rfl (ac_M.imp (p_J7_fill_53178 _ 53 13 (-1 : Int32) (by decide +kernel) rfl H) ?_)
  rintro _ _ ⟨s5, rfl, rfl, H⟩
  exact ax_vret dX5_init_93 rfl rfl rfl H
theorem k_X6_58 {g : ac_G} {τ : Nat → Nat → Int64} (d : Nat) {Q : ac_O → ac_W → Prop} {σ : ac_m} (hz : ∀ y, 58 ≤ y → y < 62 → σ y = fun _ => 0) (H : Q (.inl none) (true, 62, MX 62 10, σ, τ)) : ac_M g i_X6_init d 3 5564 [.ref 58] (true, 59, MX 58 10, σ, τ) Q := by
  refine ac_ofX (by decide +kernel) rfl rfl rfl ?_
  refine ax_aload_n (pc' := 1) dX6_init_0 rfl rfl ?_
  refine ax_obj0 (pc' := 4) dX6_init_1 oi_X6 oi_2 oi_3 rfl rfl ?_
  refine ax_aload_n (pc' := 5) dX6_init_4 rfl rfl ?_
  refine ax_sipush (pc' := 8) (v := (1328 : Int32)) dX6_init_5 (by decide) rfl ?_
  refine ax_newI (pc' := 10) (b := 0) (n := 1328) dX6_init_8 ar_int (by decide +kernel) (hz 59 (by decide) (by decide)) rfl rfl rfl rfl rfl rfl ?_
  refine ax_putR (pc' := 13) (tm := [some Value.null, some Value.null, some Value.null, none, none]) dX6_init_10 fp_X6_11 rfl (fun _ => rfl) (fun _ => rfl) (by decide +kernel) rfl rfl rfl ?_
  refine ax_aload_n (pc' := 14) dX6_init_13 rfl rfl ?_
  refine ax_sipush (pc' := 17) (v := (4233 : Int32)) dX6_init_14 (by decide) rfl ?_
  refine ax_newI (pc' := 19) (b := 0) (n := 4233) dX6_init_17 ar_int (by decide +kernel) (hz 60 (by decide) (by decide)) rfl rfl rfl rfl rfl rfl ?_
  refine ax_putR (pc' := 22) (tm := [some (.ref 59), some Value.null, some Value.null, none, none]) dX6_init_19 fp_X6_17 rfl (fun _ => rfl) (fun _ => rfl) (by decide +kernel) rfl rfl rfl ?_
  refine ax_aload_n (pc' := 23) dX6_init_22 rfl rfl ?_
  refine ax_iconst (pc' := 24) (v := (3 : Int32)) dX6_init_23 (by decide) rfl ?_
  refine ax_newI (pc' := 26) (b := 0) (n := 3) dX6_init_24 ar_int (by decide +kernel) (hz 61 (by decide) (by decide)) rfl rfl rfl rfl rfl rfl ?_
  refine ax_putR (pc' := 29) (tm := [some (.ref 59), some (.ref 60), some Value.null, none, none]) dX6_init_26 fp_X6_20 rfl (fun _ => rfl) (fun _ => rfl) (by decide +kernel) rfl rfl rfl ?_
  refine ax_aload_n (pc' := 30) dX6_init_29 rfl rfl ?_
  refine ax_iconst (pc' := 31) (v := (0 : Int32)) dX6_init_30 (by decide) rfl ?_
  refine ax_put0 (pc' := 34) (tm := [some (.ref 59), some (.ref 60), some (.ref 61), none, none]) dX6_init_31 fp_X6_23 (by decide +kernel) rfl rfl (hz 58 (by decide) (by decide)) rfl ?_
  refine ax_aload_n (pc' := 35) dX6_init_34 rfl rfl ?_
  refine ax_iconst (pc' := 36) (v := (0 : Int32)) dX6_init_35 (by decide) rfl ?_
  refine ax_put0 (pc' := 39) (tm := [some (.ref 59), some (.ref 60), some (.ref 61), none, none]) dX6_init_36 fp_X6_27 (by decide +kernel) rfl rfl (hz 58 (by decide) (by decide)) rfl ?_
  refine ax_same (sh' := MX 62 10) (by decide +kernel) ?_
  exact ax_vret dX6_init_39 rfl rfl rfl H
theorem k_X2_62 {g : ac_G} {τ : Nat → Nat → Int64} (d : Nat) {Q : ac_O → ac_W → Prop} {σ : ac_m} (hz : ∀ y, 62 ≤ y → y < 65 → σ y = fun _ => 0) (H : Q (.inl none) (true, 65, MX 65 11, (ac_u σ 62 5 (-1)), τ)) : ac_M g i_X2_init d 2 4108 [.ref 62, .ref 3, .ref 42] (true, 63, MX 62 11, σ, τ) Q := by
  refine ac_ofX (by decide +kernel) rfl rfl rfl ?_
  refine ax_aload_n (pc' := 1) dX2_init_0 rfl rfl ?_
  refine ax_obj0 (pc' := 4) dX2_init_1 oi_X2 oi_2 oi_3 rfl rfl ?_
  refine ax_aload_n (pc' := 5) dX2_init_4 rfl rfl ?_
  refine ax_bipush (pc' := 7) (v := (12 : Int32)) dX2_init_5 (by decide) rfl ?_
  refine ax_newI (pc' := 9) (b := 0) (n := 12) dX2_init_7 ar_int (by decide +kernel) (hz 63 (by decide) (by decide)) rfl rfl rfl rfl rfl rfl ?_
  refine ax_putR (pc' := 12) (tm := [some Value.null, some Value.null, some Value.null, some Value.null, none, none]) dX2_init_9 fp_X2_9 rfl (fun _ => rfl) (fun _ => rfl) (by decide +kernel) rfl rfl rfl ?_
  refine ax_aload_n (pc' := 13) dX2_init_12 rfl rfl ?_
  refine ax_sipush (pc' := 16) (v := (4096 : Int32)) dX2_init_13 (by decide) rfl ?_
  refine ax_newI (pc' := 18) (b := 0) (n := 4096) dX2_init_16 ar_int (by decide +kernel) (hz 64 (by decide) (by decide)) rfl rfl rfl rfl rfl rfl ?_
  refine ax_putR (pc' := 21) (tm := [some Value.null, some Value.null, some (.ref 63), some Value.null, none, none]) dX2_init_18 fp_X2_15 rfl (fun _ => rfl) (fun _ => rfl) (by decide +kernel) rfl rfl rfl ?_
  refine ax_aload_n (pc' := 22) dX2_init_21 rfl rfl ?_
  refine ax_iconst (pc' := 23) (v := (0 : Int32)) dX2_init_22 (by decide) rfl ?_
  refine ax_put0 (pc' := 26) (tm := [some Value.null, some Value.null, some (.ref 63), some (.ref 64), none, none]) dX2_init_23 fp_X2_18 (by decide +kernel) rfl rfl (hz 62 (by decide) (by decide)) rfl ?_
  refine ax_aload_n (pc' := 27) dX2_init_26 rfl rfl ?_
  refine ax_iconst (pc' := 28) (v := (-1 : Int32)) dX2_init_27 (by decide) rfl ?_
  refine ax_putI (pc' := 31) (tm := [some Value.null, some Value.null, some (.ref 63), some (.ref 64), none, none]) dX2_init_28 fp_X2_22 (by decide +kernel) rfl rfl rfl ?_
  refine ax_aload_n (pc' := 32) dX2_init_31 rfl rfl ?_
  refine ax_aload_n (pc' := 33) dX2_init_32 rfl rfl ?_
  refine ax_putR (pc' := 36) (tm := [some Value.null, some Value.null, some (.ref 63), some (.ref 64), none, none]) dX2_init_33 fp_X2_25 rfl (fun _ => rfl) (fun _ => rfl) (by decide +kernel) rfl rfl rfl ?_
  refine ax_aload_n (pc' := 37) dX2_init_36 rfl rfl ?_
  refine ax_aload_n (pc' := 38) dX2_init_37 rfl rfl ?_
  refine ax_putR (pc' := 41) (tm := [some (.ref 3), some Value.null, some (.ref 63), some (.ref 64), none, none]) dX2_init_38 fp_X2_29 rfl (fun _ => rfl) (fun _ => rfl) (by decide +kernel) rfl rfl rfl ?_
  refine ax_same (sh' := MX 65 11) (by decide +kernel) ?_
  exact ax_vret dX2_init_41 rfl rfl rfl H
theorem k_X9_65 {g : ac_G} {τ : Nat → Nat → Int64} (d : Nat) {Q : ac_O → ac_W → Prop} {σ : ac_m} (hz : ∀ y, 65 ≤ y → y < 68 → σ y = fun _ => 0) (H : Q (.inl none) (true, 68, MX 68 12, (ac_u (ac_u (ac_u σ 65 6 (-1)) 65 7 (-1)) 65 8 (0)), τ)) : ac_M g i_X9_init d 2 1313 [.ref 65, .ref 42, .ref 50, .ref 33] (true, 66, MX 65 12, σ, τ) Q := by
  refine ac_ofX (by decide +kernel) rfl rfl rfl ?_
  refine ax_aload_n (pc' := 1) dX9_init_0 rfl rfl ?_
  refine ax_obj0 (pc' := 4) dX9_init_1 oi_X9 oi_2 oi_3 rfl rfl ?_
  refine ax_aload_n (pc' := 5) dX9_init_4 rfl rfl ?_
  refine ax_bipush (pc' := 7) (v := (13 : Int32)) dX9_init_5 (by decide) rfl ?_
  refine ax_newI (pc' := 9) (b := 0) (n := 13) dX9_init_7 ar_int (by decide +kernel) (hz 66 (by decide) (by decide)) rfl rfl rfl rfl rfl rfl ?_
  refine ax_putR (pc' := 12) (tm := [some Value.null, some Value.null, some Value.null, some Value.null, some Value.null, none, none, none, none]) dX9_init_9 fp_X9_9 rfl (fun _ => rfl) (fun _ => rfl) (by decide +kernel) rfl rfl rfl ?_
  refine ax_aload_n (pc' := 13) dX9_init_12 rfl rfl ?_
  refine ax_sipush (pc' := 16) (v := (1300 : Int32)) dX9_init_13 (by decide) rfl ?_
  refine ax_newI (pc' := 18) (b := 0) (n := 1300) dX9_init_16 ar_int (by decide +kernel) (hz 67 (by decide) (by decide)) rfl rfl rfl rfl rfl rfl ?_
  refine ax_putR (pc' := 21) (tm := [some Value.null, some Value.null, some Value.null, some (.ref 66), some Value.null, none, none, none, none]) dX9_init_18 fp_X9_15 rfl (fun _ => rfl) (fun _ => rfl) (by decide +kernel) rfl rfl rfl ?_
  refine ax_aload_n (pc' := 22) dX9_init_21 rfl rfl ?_
  refine ax_iconst (pc' := 23) (v := (0 : Int32)) dX9_init_22 (by decide) rfl ?_
  refine ax_put0 (pc' := 26) (tm := [some Value.null, some Value.null, some Value.null, some (.ref 66), some (.ref 67), none, none, none, none]) dX9_init_23 fp_X9_18 (by decide +kernel) rfl rfl (hz 65 (by decide) (by decide)) rfl ?_
  refine ax_aload_n (pc' := 27) dX9_init_26 rfl rfl ?_
  refine ax_iconst (pc' := 28) (v := (-1 : Int32)) dX9_init_27 (by decide) rfl ?_
  refine ax_putI (pc' := 31) (tm := [some Value.null, some Value.null, some Value.null, some (.ref 66), some (.ref 67), none, none, none, none]) dX9_init_28 fp_X9_22 (by decide +kernel) rfl rfl rfl ?_
  refine ax_aload_n (pc' := 32) dX9_init_31 rfl rfl ?_
  refine ax_iconst (pc' := 33) (v := (-1 : Int32)) dX9_init_32 (by decide) rfl ?_
  refine ax_putI (pc' := 36) (tm := [some Value.null, some Value.null, some Value.null, some (.ref 66), some (.ref 67), none, none, none, none]) dX9_init_33 fp_X9_25 (by decide +kernel) rfl rfl rfl ?_
  refine ax_aload_n (pc' := 37) dX9_init_36 rfl rfl ?_
  refine ax_iconst (pc' := 38) (v := (0 : Int32)) dX9_init_37 (by decide) rfl ?_
  refine ax_putI (pc' := 41) (tm := [some Value.null, some Value.null, some Value.null, some (.ref 66), some (.ref 67), none, none, none, none]) dX9_init_38 fp_X9_28 (by decide +kernel) rfl rfl rfl ?_
  refine ax_aload_n (pc' := 42) dX9_init_41 rfl rfl ?_
  refine ax_aload_n (pc' := 43) dX9_init_42 rfl rfl ?_
  refine ax_putR (pc' := 46) (tm := [some Value.null, some Value.null, some Value.null, some (.ref 66), some (.ref 67), none, none, none, none]) dX9_init_43 fp_X9_31 rfl (fun _ => rfl) (fun _ => rfl) (by decide +kernel) rfl rfl rfl ?_
  refine ax_aload_n (pc' := 47) dX9_init_46 rfl rfl ?_
  refine ax_aload_n (pc' := 48) dX9_init_47 rfl rfl ?_
  refine ax_putR (pc' := 51) (tm := [some (.ref 42), some Value.null, some Value.null, some (.ref 66), some (.ref 67), none, none, none, none]) dX9_init_48 fp_X9_35 rfl (fun _ => rfl) (fun _ => rfl) (by decide +kernel) rfl rfl rfl ?_
  refine ax_aload_n (pc' := 52) dX9_init_51 rfl rfl ?_
  refine ax_aload_n (pc' := 53) dX9_init_52 rfl rfl ?_
  refine ax_putR (pc' := 56) (tm := [some (.ref 42), some (.ref 50), some Value.null, some (.ref 66), some (.ref 67), none, none, none, none]) dX9_init_53 fp_X9_38 rfl (fun _ => rfl) (fun _ => rfl) (by decide +kernel) rfl rfl rfl ?_
  refine ax_same (sh' := MX 68 12) (by decide +kernel) ?_
  exact ax_vret dX9_init_56 rfl rfl rfl H
theorem k_X1_68 {g : ac_G} {τ : Nat → Nat → Int64} (d : Nat) {Q : ac_O → ac_W → Prop} {σ : ac_m} (hz : ∀ y, 68 ≤ y → y < 69 → σ y = fun _ => 0) (H : Q (.inl none) (true, 69, MX 69 13, σ, τ)) : ac_M g i_X1_init d 0 0 [.ref 68, .ref 3, .ref 42, .ref 50] (true, 69, MX 68 13, σ, τ) Q := by
  refine ac_ofX (by decide +kernel) rfl rfl rfl ?_
  refine ax_aload_n (pc' := 1) dX1_init_0 rfl rfl ?_
  refine ax_obj0 (pc' := 4) dX1_init_1 oi_X1 oi_2 oi_3 rfl rfl ?_
  refine ax_aload_n (pc' := 5) dX1_init_4 rfl rfl ?_
  refine ax_iconst (pc' := 6) (v := (0 : Int32)) dX1_init_5 (by decide) rfl ?_
  refine ax_put0 (pc' := 9) (tm := [some Value.null, some Value.null, some Value.null, none]) dX1_init_6 fp_X1_9 (by decide +kernel) rfl rfl (hz 68 (by decide) (by decide)) rfl ?_
  refine ax_aload_n (pc' := 10) dX1_init_9 rfl rfl ?_
  refine ax_aload_n (pc' := 11) dX1_init_10 rfl rfl ?_
  refine ax_putR (pc' := 14) (tm := [some Value.null, some Value.null, some Value.null, none]) dX1_init_11 fp_X1_15 rfl (fun _ => rfl) (fun _ => rfl) (by decide +kernel) rfl rfl rfl ?_
  refine ax_aload_n (pc' := 15) dX1_init_14 rfl rfl ?_
  refine ax_aload_n (pc' := 16) dX1_init_15 rfl rfl ?_
  refine ax_putR (pc' := 19) (tm := [some (.ref 3), some Value.null, some Value.null, none]) dX1_init_16 fp_X1_19 rfl (fun _ => rfl) (fun _ => rfl) (by decide +kernel) rfl rfl rfl ?_
  refine ax_aload_n (pc' := 20) dX1_init_19 rfl rfl ?_
  refine ax_aload_n (pc' := 21) dX1_init_20 rfl rfl ?_
  refine ax_putR (pc' := 24) (tm := [some (.ref 3), some (.ref 42), some Value.null, none]) dX1_init_21 fp_X1_23 rfl (fun _ => rfl) (fun _ => rfl) (by decide +kernel) rfl rfl rfl ?_
  refine ax_same (sh' := MX 69 13) (by decide +kernel) ?_
  exact ax_vret dX1_init_24 rfl rfl rfl H
