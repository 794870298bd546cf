theorem o_J6_bitCount_0f7a4 {g : ac_G} {τ : Nat → Nat → Int64} (d : Nat) (p1 : Int32) {Q : Int32 → ac_m → Prop} {s : ac_m} (H : w_J6_bitCount_0f7a4 p1 Q s) : ac_M g i_J6_bitCount_0f7a4 d 0 0 [.int p1] (false, 586, SH, s, τ) (liI τ Q) := by
  refine ac_ofX (by decide +kernel) rfl rfl rfl ?_
  refine ax_iload_n (pc' := 1) dJ6_bitCount_0f7a4_0 rfl rfl ?_
  refine ax_iload_n (pc' := 2) dJ6_bitCount_0f7a4_1 rfl rfl ?_
  refine ax_iconst (pc' := 3) (v := (1 : Int32)) dJ6_bitCount_0f7a4_2 (by decide) rfl ?_
  refine ax_iushr (pc' := 4) dJ6_bitCount_0f7a4_3 rfl ?_
  refine ax_ldcw (pc' := 7) dJ6_bitCount_0f7a4_4 ck_J6_265 rfl ?_
  refine ax_iand (pc' := 8) dJ6_bitCount_0f7a4_7 rfl ?_
  refine ax_isub (pc' := 9) dJ6_bitCount_0f7a4_8 rfl ?_
  refine ax_topi (fun y9 hy9 => ?_)
  have H := H y9 hy9
  refine ax_istore_n (pc' := 10) dJ6_bitCount_0f7a4_9 rfl rfl rfl ?_
  refine ax_iload_n (pc' := 11) dJ6_bitCount_0f7a4_10 rfl rfl ?_
  refine ax_ldcw (pc' := 14) dJ6_bitCount_0f7a4_11 ck_J6_266 rfl ?_
  refine ax_iand (pc' := 15) dJ6_bitCount_0f7a4_14 rfl ?_
  refine ax_iload_n (pc' := 16) dJ6_bitCount_0f7a4_15 rfl rfl ?_
  refine ax_iconst (pc' := 17) (v := (2 : Int32)) dJ6_bitCount_0f7a4_16 (by decide) rfl ?_
  refine ax_iushr (pc' := 18) dJ6_bitCount_0f7a4_17 rfl ?_
  refine ax_ldcw (pc' := 21) dJ6_bitCount_0f7a4_18 ck_J6_266 rfl ?_
  refine ax_iand (pc' := 22) dJ6_bitCount_0f7a4_21 rfl ?_
  refine ax_iadd (pc' := 23) dJ6_bitCount_0f7a4_22 rfl ?_
  refine ax_topi (fun y23 hy23 => ?_)
  have H := H y23 hy23
  refine ax_istore_n (pc' := 24) dJ6_bitCount_0f7a4_23 rfl rfl rfl ?_
  refine ax_iload_n (pc' := 25) dJ6_bitCount_0f7a4_24 rfl rfl ?_
  refine ax_iload_n (pc' := 26) dJ6_bitCount_0f7a4_25 rfl rfl ?_
  refine ax_iconst (pc' := 27) (v := (4 : Int32)) dJ6_bitCount_0f7a4_26 (by decide) rfl ?_
  refine ax_iushr (pc' := 28) dJ6_bitCount_0f7a4_27 rfl ?_
  refine ax_iadd (pc' := 29) dJ6_bitCount_0f7a4_28 rfl ?_
  refine ax_ldcw (pc' := 32) dJ6_bitCount_0f7a4_29 ck_J6_267 rfl ?_
  refine ax_iand (pc' := 33) dJ6_bitCount_0f7a4_32 rfl ?_
  refine ax_topi (fun y33 hy33 => ?_)
  have H := H y33 hy33
  refine ax_istore_n (pc' := 34) dJ6_bitCount_0f7a4_33 rfl rfl rfl ?_
  refine ax_iload_n (pc' := 35) dJ6_bitCount_0f7a4_34 rfl rfl ?_
  refine ax_iload_n (pc' := 36) dJ6_bitCount_0f7a4_35 rfl rfl ?_
  refine ax_bipush (pc' := 38) (v := (8 : Int32)) dJ6_bitCount_0f7a4_36 (by decide) rfl ?_
  refine ax_iushr (pc' := 39) dJ6_bitCount_0f7a4_38 rfl ?_
  refine ax_iadd (pc' := 40) dJ6_bitCount_0f7a4_39 rfl ?_
  refine ax_topi (fun y40 hy40 => ?_)
  have H := H y40 hy40
  refine ax_istore_n (pc' := 41) dJ6_bitCount_0f7a4_40 rfl rfl rfl ?_
  refine ax_iload_n (pc' := 42) dJ6_bitCount_0f7a4_41 rfl rfl ?_
  refine ax_iload_n (pc' := 43) dJ6_bitCount_0f7a4_42 rfl rfl ?_
  refine ax_bipush (pc' := 45) (v := (16 : Int32)) dJ6_bitCount_0f7a4_43 (by decide) rfl ?_
  refine ax_iushr (pc' := 46) dJ6_bitCount_0f7a4_45 rfl ?_
  refine ax_iadd (pc' := 47) dJ6_bitCount_0f7a4_46 rfl ?_
  refine ax_topi (fun y47 hy47 => ?_)
  have H := H y47 hy47
  refine ax_istore_n (pc' := 48) dJ6_bitCount_0f7a4_47 rfl rfl rfl ?_
  refine ax_iload_n (pc' := 49) dJ6_bitCount_0f7a4_48 rfl rfl ?_
  refine ax_bipush (pc' := 51) (v := (63 : Int32)) dJ6_bitCount_0f7a4_49 (by decide) rfl ?_
  refine ax_iand (pc' := 52) dJ6_bitCount_0f7a4_51 rfl ?_
  exact ax_iret dJ6_bitCount_0f7a4_52 rfl rfl rfl ⟨_, _, rfl, rfl, H⟩
theorem ol_J7_fill_53178_5 {g : ac_G} {τ : Nat → Nat → Int64} (d : Nat) (r1 : Nat) (n1 : Nat) (p2 : Int32) (hr1 : SH r1 = .inl (0, n1, 0)) (hn1 : Nat.blt r1 586 = true) {Q : ac_m → Prop}  (f1 : Int32) (f3 : Int32)  {x2 : Int32} {s : ac_m} (H : l_J7_fill_53178_5 r1 n1 p2 Q  f1 f3  x2 s) : ac_X g i_J7_fill_53178 d 0 0 (liV τ Q) 0 0 5 [some (.ref r1), some (.int f1), some (.int x2), some (.int f3)] [] (false, 586, SH, s, τ) := by
  refine H (fun x2 s => ac_X g i_J7_fill_53178 d 0 0 (liV τ Q) 0 0 5 [some (.ref r1), some (.int f1), some (.int x2), some (.int f3)] [] (false, 586, SH, s, τ)) ?_
  intro x2 s H
  refine ax_iload_n (pc' := 6) dJ7_fill_53178_5 rfl rfl ?_
  refine ax_iload_n (pc' := 7) dJ7_fill_53178_6 rfl rfl ?_
  refine ax_icmp_ge (pc' := 10) (tgt := 20) dJ7_fill_53178_7 (by decide) rfl (fun hc7 => ?_) (fun hc7 => ?_)
  · have H := H.1 hc7
    exact ax_vret dJ7_fill_53178_20 rfl rfl rfl ⟨_, rfl, rfl, H⟩
  · have H := H.2 hc7
    refine ax_aload_n (pc' := 11) dJ7_fill_53178_10 rfl rfl ?_
    refine ax_iload_n (pc' := 12) dJ7_fill_53178_11 rfl rfl ?_
    refine ax_iload_n (pc' := 13) dJ7_fill_53178_12 rfl rfl ?_
    obtain ⟨hj13, H⟩ := H
    refine ax_iast (pc' := 14) dJ7_fill_53178_13 hr1 hj13 hn1 rfl ?_
    refine ax_iinc (pc' := 17) (v := (x2 + (1 : Int32))) dJ7_fill_53178_14 rfl rfl rfl rfl rfl ?_
    refine ax_goto (tgt := 5) dJ7_fill_53178_17 (by decide) ?_
    exact H
theorem o_J7_fill_53178 {g : ac_G} {τ : Nat → Nat → Int64} (d : Nat) (r1 : Nat) (n1 : Nat) (p2 : Int32) (hr1 : SH r1 = .inl (0, n1, 0)) (hn1 : Nat.blt r1 586 = true) {Q : ac_m → Prop} {s : ac_m} (H : w_J7_fill_53178 r1 n1 p2 Q s) : ac_M g i_J7_fill_53178 d 0 0 [.ref r1, .int p2] (false, 586, SH, s, τ) (liV τ Q) := by
  refine ac_ofX (by decide +kernel) rfl rfl rfl ?_
  refine ax_iconst (pc' := 1) (v := (0 : Int32)) dJ7_fill_53178_0 (by decide) rfl ?_
  refine ax_istore_n (pc' := 2) dJ7_fill_53178_1 rfl rfl rfl ?_
  refine ax_aload_n (pc' := 3) dJ7_fill_53178_2 rfl rfl ?_
  refine ax_alen (pc' := 4) (v := (Int32.ofNat n1)) dJ7_fill_53178_3 hr1 rfl rfl hn1 rfl ?_
  refine ax_istore_n (pc' := 5) dJ7_fill_53178_4 rfl rfl rfl ?_
  refine ol_J7_fill_53178_5 d r1 n1 p2 hr1 hn1 _ _    H
