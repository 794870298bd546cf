theorem ol_X12_tellsNothing_2 {g : ac_G} {τ : Nat → Nat → Int64} (d : Nat)  {Q : ac_m → Prop}    {x1 : Int32} {s : ac_m} (H : l_X12_tellsNothing_2  Q    x1 s) : ac_X g i_X12_tellsNothing d 0 0 (liV τ Q) 0 0 2 [some (.ref 69), some (.int x1)] [] (false, 586, SH, s, τ) := by
  refine H (fun x1 s => ac_X g i_X12_tellsNothing d 0 0 (liV τ Q) 0 0 2 [some (.ref 69), some (.int x1)] [] (false, 586, SH, s, τ)) ?_
  intro x1 s H
  refine ax_iload_n (pc' := 3) dX12_tellsNothing_2 rfl rfl ?_
  refine ax_iconst (pc' := 4) (v := (3 : Int32)) dX12_tellsNothing_3 (by decide) rfl ?_
  refine ax_icmp_ge (pc' := 7) (tgt := 20) dX12_tellsNothing_4 (by decide) rfl (fun hc4 => ?_) (fun hc4 => ?_)
  · have H := H.1 hc4
    exact ax_vret dX12_tellsNothing_20 rfl rfl rfl ⟨_, rfl, rfl, H⟩
  · have H := H.2 hc4
    refine ax_aload_n (pc' := 8) dX12_tellsNothing_7 rfl rfl ?_
    refine ax_getR (pc' := 11) dX12_tellsNothing_8 fl_X12_20 sh_69 rfl rfl rfl ?_
    refine ax_iload_n (pc' := 12) dX12_tellsNothing_11 rfl rfl ?_
    refine ax_iconst (pc' := 13) (v := (0 : Int32)) dX12_tellsNothing_12 (by decide) rfl ?_
    obtain ⟨hj13, H⟩ := H
    refine ax_iast (pc' := 14) dX12_tellsNothing_13 sh_72 hj13 rfl rfl ?_
    refine ax_iinc (pc' := 17) (v := (x1 + (1 : Int32))) dX12_tellsNothing_14 rfl rfl rfl rfl rfl ?_
    refine ax_goto (tgt := 2) dX12_tellsNothing_17 (by decide) ?_
    exact H
theorem o_X12_tellsNothing {g : ac_G} {τ : Nat → Nat → Int64} (d : Nat)  {Q : ac_m → Prop} {s : ac_m} (H : w_X12_tellsNothing  Q s) : ac_M g i_X12_tellsNothing d 0 0 [.ref 69] (false, 586, SH, s, τ) (liV τ Q) := by
  refine ac_ofX (by decide +kernel) rfl rfl rfl ?_
  refine ax_iconst (pc' := 1) (v := (0 : Int32)) dX12_tellsNothing_0 (by decide) rfl ?_
  refine ax_istore_n (pc' := 2) dX12_tellsNothing_1 rfl rfl rfl ?_
  refine ol_X12_tellsNothing_2 d       H
theorem o_X12_thrown {g : ac_G} {τ : Nat → Nat → Int64} (d : Nat)  {Q : Int32 → ac_m → Prop} {s : ac_m} (H : w_X12_thrown  Q s) : ac_M g i_X12_thrown d 0 0 [.ref 69] (false, 586, SH, s, τ) (liI τ Q) := by
  refine ac_ofX (by decide +kernel) rfl rfl rfl ?_
  refine ax_aload_n (pc' := 1) dX12_thrown_0 rfl rfl ?_
  refine ax_getI (pc' := 4) dX12_thrown_1 fl_X12_104 sh_69 rfl rfl rfl ?_
  exact ax_iret dX12_thrown_4 rfl rfl rfl ⟨_, _, rfl, rfl, H⟩
theorem o_X12_bad {g : ac_G} {τ : Nat → Nat → Int64} (d : Nat) (p1 : Int32) (p2 : Int32) (p3 : Int32) {Q : Int32 → ac_m → Prop} {s : ac_m} (H : w_X12_bad p1 p2 p3 Q s) : ac_M g i_X12_bad d 0 0 [.ref 69, .int p1, .int p2, .int p3] (false, 586, SH, s, τ) (liI τ Q) := by
  refine ac_ofX (by decide +kernel) rfl rfl rfl ?_
  refine ax_iload_n (pc' := 1) dX12_bad_0 rfl rfl ?_
  refine ax_if_eq (pc' := 4) (tgt := 26) dX12_bad_1 (by decide) rfl (fun hc1 => ?_) (fun hc1 => ?_)
  · have H := H.1 hc1
    refine ax_aload_n (pc' := 27) dX12_bad_26 rfl rfl ?_
    refine ax_getI (pc' := 30) dX12_bad_27 fl_X12_104 sh_69 rfl rfl rfl ?_
    refine ax_if_eq (pc' := 33) (tgt := 37) dX12_bad_30 (by decide) rfl (fun hc30 => ?_) (fun hc30 => ?_)
    · have H := H.1 hc30
      refine ax_iconst (pc' := 38) (v := (0 : Int32)) dX12_bad_37 (by decide) rfl ?_
      exact ax_zret dX12_bad_38 rfl rfl rfl rfl ⟨_, _, rfl, rfl, H⟩
    · have H := H.2 hc30
      refine ax_iconst (pc' := 34) (v := (1 : Int32)) dX12_bad_33 (by decide) rfl ?_
      refine ax_goto (tgt := 38) dX12_bad_34 (by decide) ?_
      exact ax_zret dX12_bad_38 rfl rfl rfl rfl ⟨_, _, rfl, rfl, H⟩
  · have H := H.2 hc1
    refine ax_aload_n (pc' := 5) dX12_bad_4 rfl rfl ?_
    refine ax_getI (pc' := 8) dX12_bad_5 fl_X12_104 sh_69 rfl rfl rfl ?_
    refine ax_if_ne (pc' := 11) (tgt := 26) dX12_bad_8 (by decide) rfl (fun hc8 => ?_) (fun hc8 => ?_)
    · have H := H.1 hc8
      refine ax_aload_n (pc' := 27) dX12_bad_26 rfl rfl ?_
      refine ax_getI (pc' := 30) dX12_bad_27 fl_X12_104 sh_69 rfl rfl rfl ?_
      refine ax_if_eq (pc' := 33) (tgt := 37) dX12_bad_30 (by decide) rfl (fun hc30 => ?_) (fun hc30 => ?_)
      · have H := H.1 hc30
        refine ax_iconst (pc' := 38) (v := (0 : Int32)) dX12_bad_37 (by decide) rfl ?_
        exact ax_zret dX12_bad_38 rfl rfl rfl rfl ⟨_, _, rfl, rfl, H⟩
      · have H := H.2 hc30
        refine ax_iconst (pc' := 34) (v := (1 : Int32)) dX12_bad_33 (by decide) rfl ?_
        refine ax_goto (tgt := 38) dX12_bad_34 (by decide) ?_
        exact ax_zret dX12_bad_38 rfl rfl rfl rfl ⟨_, _, rfl, rfl, H⟩
    · have H := H.2 hc8
      refine ax_aload_n (pc' := 12) dX12_bad_11 rfl rfl ?_
      refine ax_iload_n (pc' := 13) dX12_bad_12 rfl rfl ?_
      refine ax_putI (pc' := 16) dX12_bad_13 fp_X12_104 sh_69 rfl rfl rfl ?_
      refine ax_aload_n (pc' := 17) dX12_bad_16 rfl rfl ?_
      refine ax_getR (pc' := 20) dX12_bad_17 fl_X12_17 sh_69 rfl rfl rfl ?_
      refine ax_iload_n (pc' := 21) dX12_bad_20 rfl rfl ?_
      refine ax_dup2 (pc' := 22) dX12_bad_21 rfl rfl rfl ?_
      obtain ⟨hj22, H⟩ := H
      refine ax_iald (pc' := 23) dX12_bad_22 sh_71 hj22 rfl rfl ?_
      refine ax_iconst (pc' := 24) (v := (1 : Int32)) dX12_bad_23 (by decide) rfl ?_
      refine ax_iadd (pc' := 25) dX12_bad_24 rfl ?_
      obtain ⟨hj25, H⟩ := H
      refine ax_iast (pc' := 26) dX12_bad_25 sh_71 hj25 rfl rfl ?_
      refine ax_aload_n (pc' := 27) dX12_bad_26 rfl rfl ?_
      refine ax_getI (pc' := 30) dX12_bad_27 fl_X12_104 sh_69 rfl rfl rfl ?_
      refine ax_if_eq (pc' := 33) (tgt := 37) dX12_bad_30 (by decide) rfl (fun hc30 => ?_) (fun hc30 => ?_)
      · have H := H.1 hc30
        refine ax_iconst (pc' := 38) (v := (0 : Int32)) dX12_bad_37 (by decide) rfl ?_
        exact ax_zret dX12_bad_38 rfl rfl rfl rfl ⟨_, _, rfl, rfl, H⟩
      · have H := H.2 hc30
        refine ax_iconst (pc' := 34) (v := (1 : Int32)) dX12_bad_33 (by decide) rfl ?_
        refine ax_goto (tgt := 38) dX12_bad_34 (by decide) ?_
        exact ax_zret dX12_bad_38 rfl rfl rfl rfl ⟨_, _, rfl, rfl, H⟩
theorem o_X12_in {g : ac_G} {τ : Nat → Nat → Int64} (d : Nat) (p1 : Int32) (p2 : Int32) (p3 : Int32) {Q : Int32 → ac_m → Prop} {s : ac_m} (H : w_X12_in p1 p2 p3 Q s) : ac_M g i_X12_in d 0 0 [.int p1, .int p2, .int p3] (false, 586, SH, s, τ) (liI τ Q) := by
  refine ac_ofX (by decide +kernel) rfl rfl rfl ?_
  refine ax_iload_n (pc' := 1) dX12_in_0 rfl rfl ?_
  refine ax_iload_n (pc' := 2) dX12_in_1 rfl rfl ?_
  refine ax_icmp_lt (pc' := 5) (tgt := 14) dX12_in_2 (by decide) rfl (fun hc2 => ?_) (fun hc2 => ?_)
  · have H := H.1 hc2
    refine ax_iconst (pc' := 15) (v := (0 : Int32)) dX12_in_14 (by decide) rfl ?_
    exact ax_zret dX12_in_15 rfl rfl rfl rfl ⟨_, _, rfl, rfl, H⟩
  · have H := H.2 hc2
    refine ax_iload_n (pc' := 6) dX12_in_5 rfl rfl ?_
    refine ax_iload_n (pc' := 7) dX12_in_6 rfl rfl ?_
    refine ax_icmp_gt (pc' := 10) (tgt := 14) dX12_in_7 (by decide) rfl (fun hc7 => ?_) (fun hc7 => ?_)
    · have H := H.1 hc7
      refine ax_iconst (pc' := 15) (v := (0 : Int32)) dX12_in_14 (by decide) rfl ?_
      exact ax_zret dX12_in_15 rfl rfl rfl rfl ⟨_, _, rfl, rfl, H⟩
    · have H := H.2 hc7
      refine ax_iconst (pc' := 11) (v := (1 : Int32)) dX12_in_10 (by decide) rfl ?_
      refine ax_goto (tgt := 15) dX12_in_11 (by decide) ?_
      exact ax_zret dX12_in_15 rfl rfl rfl rfl ⟨_, _, rfl, rfl, H⟩
theorem o_X12_less {g : ac_G} {τ : Nat → Nat → Int64} (d : Nat) (p1 : Int32) (p2 : Int32) {Q : Int32 → ac_m → Prop} {s : ac_m} (H : w_X12_less p1 p2 Q s) : ac_M g i_X12_less d 0 0 [.int p1, .int p2] (false, 586, SH, s, τ) (liI τ Q) := by
  refine ac_ofX (by decide +kernel) rfl rfl rfl ?_
  refine ax_iload_n (pc' := 1) dX12_less_0 rfl rfl ?_
  refine ax_iload_n (pc' := 2) dX12_less_1 rfl rfl ?_
  refine ax_icmp_ge (pc' := 5) (tgt := 9) dX12_less_2 (by decide) rfl (fun hc2 => ?_) (fun hc2 => ?_)
  · have H := H.1 hc2
    refine ax_iload_n (pc' := 10) dX12_less_9 rfl rfl ?_
    exact ax_iret dX12_less_10 rfl rfl rfl ⟨_, _, rfl, rfl, H⟩
  · have H := H.2 hc2
    refine ax_iload_n (pc' := 6) dX12_less_5 rfl rfl ?_
    refine ax_goto (tgt := 10) dX12_less_6 (by decide) ?_
    exact ax_iret dX12_less_10 rfl rfl rfl ⟨_, _, rfl, rfl, H⟩
theorem o_X12_more {g : ac_G} {τ : Nat → Nat → Int64} (d : Nat) (p1 : Int32) (p2 : Int32) {Q : Int32 → ac_m → Prop} {s : ac_m} (H : w_X12_more p1 p2 Q s) : ac_M g i_X12_more d 0 0 [.int p1, .int p2] (false, 586, SH, s, τ) (liI τ Q) := by
  refine ac_ofX (by decide +kernel) rfl rfl rfl ?_
  refine ax_iload_n (pc' := 1) dX12_more_0 rfl rfl ?_
  refine ax_iload_n (pc' := 2) dX12_more_1 rfl rfl ?_
  refine ax_icmp_le (pc' := 5) (tgt := 9) dX12_more_2 (by decide) rfl (fun hc2 => ?_) (fun hc2 => ?_)
  · have H := H.1 hc2
    refine ax_iload_n (pc' := 10) dX12_more_9 rfl rfl ?_
    exact ax_iret dX12_more_10 rfl rfl rfl ⟨_, _, rfl, rfl, H⟩
  · have H := H.2 hc2
    refine ax_iload_n (pc' := 6) dX12_more_5 rfl rfl ?_
    refine ax_goto (tgt := 10) dX12_more_6 (by decide) ?_
    exact ax_iret dX12_more_10 rfl rfl rfl ⟨_, _, rfl, rfl, H⟩
theorem o_X12_has {g : ac_G} {τ : Nat → Nat → Int64} (d : Nat) (p1 : Int32) (p2 : Int32) {Q : Int32 → ac_m → Prop} {s : ac_m} (H : w_X12_has p1 p2 Q s) : ac_M g i_X12_has d 0 0 [.int p1, .int p2] (false, 586, SH, s, τ) (liI τ Q) := by
  refine ac_ofX (by decide +kernel) rfl rfl rfl ?_
  refine ax_iload_n (pc' := 1) dX12_has_0 rfl rfl ?_
  refine ax_iload_n (pc' := 2) dX12_has_1 rfl rfl ?_
  refine ax_ishr (pc' := 3) dX12_has_2 rfl ?_
  refine ax_iconst (pc' := 4) (v := (1 : Int32)) dX12_has_3 (by decide) rfl ?_
  refine ax_iand (pc' := 5) dX12_has_4 rfl ?_
  refine ax_iconst (pc' := 6) (v := (1 : Int32)) dX12_has_5 (by decide) rfl ?_
  refine ax_icmp_ne (pc' := 9) (tgt := 13) dX12_has_6 (by decide) rfl (fun hc6 => ?_) (fun hc6 => ?_)
  · have H := H.1 hc6
    refine ax_iconst (pc' := 14) (v := (0 : Int32)) dX12_has_13 (by decide) rfl ?_
    exact ax_zret dX12_has_14 rfl rfl rfl rfl ⟨_, _, rfl, rfl, H⟩
  · have H := H.2 hc6
    refine ax_iconst (pc' := 10) (v := (1 : Int32)) dX12_has_9 (by decide) rfl ?_
    refine ax_goto (tgt := 14) dX12_has_10 (by decide) ?_
    exact ax_zret dX12_has_14 rfl rfl rfl rfl ⟨_, _, rfl, rfl, H⟩
theorem ol_X12_feed_23 {g : ac_G} {τ : Nat → Nat → Int64} (d : Nat) (p1 : Int32) (p2 : Int32) (p3 : Int32) (p4 : Int32) (p5 : Int32) {Q : Int32 → ac_m → Prop}  (f1 : Int32) (f2 : Int32) (f3 : Int32) (f4 : Int32) (f5 : Int32)  {x6 : Int32} {s : ac_m} (H : l_X12_feed_23 p1 p2 p3 p4 p5 Q  f1 f2 f3 f4 f5  x6 s) : ac_X g i_X12_feed d 0 0 (liI τ Q) 0 0 23 [some (.ref 69), some (.int f1), some (.int f2), some (.int f3), some (.int f4), some (.int f5), some (.int x6), none] [] (false, 586, SH, s, τ) := by
  refine H (fun x6 s => ac_X g i_X12_feed d 0 0 (liI τ Q) 0 0 23 [some (.ref 69), some (.int f1), some (.int f2), some (.int f3), some (.int f4), some (.int f5), some (.int x6), none] [] (false, 586, SH, s, τ)) ?_
  intro x6 s H
  refine ax_iload (pc' := 25) dX12_feed_23 rfl rfl ?_
  refine ax_bipush (pc' := 27) (v := (20 : Int32)) dX12_feed_25 (by decide) rfl ?_
  refine ax_icmp_ge (pc' := 30) (tgt := 120) dX12_feed_27 (by decide) rfl (fun hc27 => ?_) (fun hc27 => ?_)
  · have H := H.1 hc27
    refine ax_aload_n (pc' := 121) dX12_feed_120 rfl rfl ?_
    refine ax_getI (pc' := 124) dX12_feed_121 fl_X12_107 sh_69 rfl rfl rfl ?_
    exact ax_iret dX12_feed_124 rfl rfl rfl ⟨_, _, rfl, rfl, H⟩
  · have H := H.2 hc27
    refine ax_iload (pc' := 32) dX12_feed_30 rfl rfl ?_
    refine ax_iconst (pc' := 33) (v := (4 : Int32)) dX12_feed_32 (by decide) rfl ?_
    refine ax_icmp_ge (pc' := 36) (tgt := 40) dX12_feed_33 (by decide) rfl (fun hc33 => ?_) (fun hc33 => ?_)
    · have H := H.1 hc33
      refine ax_iload (pc' := 42) dX12_feed_40 rfl rfl ?_
      refine ax_bipush (pc' := 44) (v := (8 : Int32)) dX12_feed_42 (by decide) rfl ?_
      refine ax_icmp_ge (pc' := 47) (tgt := 51) dX12_feed_44 (by decide) rfl (fun hc44 => ?_) (fun hc44 => ?_)
      · have H := H.1 hc44
        refine ax_iload (pc' := 53) dX12_feed_51 rfl rfl ?_
        refine ax_bipush (pc' := 55) (v := (12 : Int32)) dX12_feed_53 (by decide) rfl ?_
        refine ax_icmp_ge (pc' := 58) (tgt := 62) dX12_feed_55 (by decide) rfl (fun hc55 => ?_) (fun hc55 => ?_)
        · have H := H.1 hc55
          refine ax_iload (pc' := 64) dX12_feed_62 rfl rfl ?_
          refine ax_bipush (pc' := 66) (v := (16 : Int32)) dX12_feed_64 (by decide) rfl ?_
          refine ax_icmp_ge (pc' := 69) (tgt := 74) dX12_feed_66 (by decide) rfl (fun hc66 => ?_) (fun hc66 => ?_)
          · have H := H.1 hc66
            refine ax_iload (pc' := 76) dX12_feed_74 rfl rfl ?_
            refine ax_istore (pc' := 78) dX12_feed_76 rfl rfl rfl ?_
            refine ax_aload_n (pc' := 79) dX12_feed_78 rfl rfl ?_
            refine ax_getR (pc' := 82) dX12_feed_79 fl_X12_13 sh_69 rfl rfl rfl ?_
            refine ax_aload_n (pc' := 83) dX12_feed_82 rfl rfl ?_
            refine ax_getI (pc' := 86) dX12_feed_83 fl_X12_107 sh_69 rfl rfl rfl ?_
            refine ax_iload (pc' := 88) dX12_feed_86 rfl rfl ?_
            refine ax_bipush (pc' := 90) (v := (24 : Int32)) dX12_feed_88 (by decide) rfl ?_
            refine ax_bipush (pc' := 92) (v := (8 : Int32)) dX12_feed_90 (by decide) rfl ?_
            refine ax_iload (pc' := 94) dX12_feed_92 rfl rfl ?_
            refine ax_iconst (pc' := 95) (v := (4 : Int32)) dX12_feed_94 (by decide) rfl ?_
            refine ax_irem (pc' := 96) dX12_feed_95 (by decide) rfl ?_
            refine ax_imul (pc' := 97) dX12_feed_96 rfl ?_
            refine ax_isub (pc' := 98) dX12_feed_97 rfl ?_
            refine ax_ishr (pc' := 99) dX12_feed_98 rfl ?_
            refine ax_sipush (pc' := 102) (v := (255 : Int32)) dX12_feed_99 (by decide) rfl ?_
            refine ax_iand (pc' := 103) dX12_feed_102 rfl ?_
            obtain ⟨hj103, H⟩ := H
            refine ax_iast (pc' := 104) dX12_feed_103 sh_70 hj103 rfl rfl ?_
            refine ax_aload_n (pc' := 105) dX12_feed_104 rfl rfl ?_
            refine ax_dup (pc' := 106) dX12_feed_105 rfl rfl ?_
            refine ax_getI (pc' := 109) dX12_feed_106 fl_X12_107 sh_69 rfl rfl rfl ?_
            refine ax_iconst (pc' := 110) (v := (1 : Int32)) dX12_feed_109 (by decide) rfl ?_
            refine ax_iadd (pc' := 111) dX12_feed_110 rfl ?_
            refine ax_putI (pc' := 114) dX12_feed_111 fp_X12_107 sh_69 rfl rfl rfl ?_
            refine ax_iinc (pc' := 117) (v := (x6 + (1 : Int32))) dX12_feed_114 rfl rfl rfl rfl rfl ?_
            refine ax_goto (tgt := 23) dX12_feed_117 (by decide) ?_
            refine ax_drop 7 rfl ?_
            exact H
          · have H := H.2 hc66
            refine ax_iload (pc' := 71) dX12_feed_69 rfl rfl ?_
            refine ax_goto (tgt := 76) dX12_feed_71 (by decide) ?_
            refine ax_istore (pc' := 78) dX12_feed_76 rfl rfl rfl ?_
            refine ax_aload_n (pc' := 79) dX12_feed_78 rfl rfl ?_
            refine ax_getR (pc' := 82) dX12_feed_79 fl_X12_13 sh_69 rfl rfl rfl ?_
            refine ax_aload_n (pc' := 83) dX12_feed_82 rfl rfl ?_
            refine ax_getI (pc' := 86) dX12_feed_83 fl_X12_107 sh_69 rfl rfl rfl ?_
            refine ax_iload (pc' := 88) dX12_feed_86 rfl rfl ?_
            refine ax_bipush (pc' := 90) (v := (24 : Int32)) dX12_feed_88 (by decide) rfl ?_
            refine ax_bipush (pc' := 92) (v := (8 : Int32)) dX12_feed_90 (by decide) rfl ?_
            refine ax_iload (pc' := 94) dX12_feed_92 rfl rfl ?_
            refine ax_iconst (pc' := 95) (v := (4 : Int32)) dX12_feed_94 (by decide) rfl ?_
            refine ax_irem (pc' := 96) dX12_feed_95 (by decide) rfl ?_
            refine ax_imul (pc' := 97) dX12_feed_96 rfl ?_
            refine ax_isub (pc' := 98) dX12_feed_97 rfl ?_
            refine ax_ishr (pc' := 99) dX12_feed_98 rfl ?_
            refine ax_sipush (pc' := 102) (v := (255 : Int32)) dX12_feed_99 (by decide) rfl ?_
            refine ax_iand (pc' := 103) dX12_feed_102 rfl ?_
            obtain ⟨hj103, H⟩ := H
            refine ax_iast (pc' := 104) dX12_feed_103 sh_70 hj103 rfl rfl ?_
            refine ax_aload_n (pc' := 105) dX12_feed_104 rfl rfl ?_
            refine ax_dup (pc' := 106) dX12_feed_105 rfl rfl ?_
            refine ax_getI (pc' := 109) dX12_feed_106 fl_X12_107 sh_69 rfl rfl rfl ?_
            refine ax_iconst (pc' := 110) (v := (1 : Int32)) dX12_feed_109 (by decide) rfl ?_
            refine ax_iadd (pc' := 111) dX12_feed_110 rfl ?_
            refine ax_putI (pc' := 114) dX12_feed_111 fp_X12_107 sh_69 rfl rfl rfl ?_
            refine ax_iinc (pc' := 117) (v := (x6 + (1 : Int32))) dX12_feed_114 rfl rfl rfl rfl rfl ?_
            refine ax_goto (tgt := 23) dX12_feed_117 (by decide) ?_
            refine ax_drop 7 rfl ?_
            exact H
        · have H := H.2 hc55
          refine ax_iload_n (pc' := 59) dX12_feed_58 rfl rfl ?_
          refine ax_goto (tgt := 76) dX12_feed_59 (by decide) ?_
          refine ax_istore (pc' := 78) dX12_feed_76 rfl rfl rfl ?_
          refine ax_aload_n (pc' := 79) dX12_feed_78 rfl rfl ?_
          refine ax_getR (pc' := 82) dX12_feed_79 fl_X12_13 sh_69 rfl rfl rfl ?_
          refine ax_aload_n (pc' := 83) dX12_feed_82 rfl rfl ?_
          refine ax_getI (pc' := 86) dX12_feed_83 fl_X12_107 sh_69 rfl rfl rfl ?_
          refine ax_iload (pc' := 88) dX12_feed_86 rfl rfl ?_
          refine ax_bipush (pc' := 90) (v := (24 : Int32)) dX12_feed_88 (by decide) rfl ?_
          refine ax_bipush (pc' := 92) (v := (8 : Int32)) dX12_feed_90 (by decide) rfl ?_
          refine ax_iload (pc' := 94) dX12_feed_92 rfl rfl ?_
          refine ax_iconst (pc' := 95) (v := (4 : Int32)) dX12_feed_94 (by decide) rfl ?_
          refine ax_irem (pc' := 96) dX12_feed_95 (by decide) rfl ?_
          refine ax_imul (pc' := 97) dX12_feed_96 rfl ?_
          refine ax_isub (pc' := 98) dX12_feed_97 rfl ?_
          refine ax_ishr (pc' := 99) dX12_feed_98 rfl ?_
          refine ax_sipush (pc' := 102) (v := (255 : Int32)) dX12_feed_99 (by decide) rfl ?_
          refine ax_iand (pc' := 103) dX12_feed_102 rfl ?_
          obtain ⟨hj103, H⟩ := H
          refine ax_iast (pc' := 104) dX12_feed_103 sh_70 hj103 rfl rfl ?_
          refine ax_aload_n (pc' := 105) dX12_feed_104 rfl rfl ?_
          refine ax_dup (pc' := 106) dX12_feed_105 rfl rfl ?_
          refine ax_getI (pc' := 109) dX12_feed_106 fl_X12_107 sh_69 rfl rfl rfl ?_
          refine ax_iconst (pc' := 110) (v := (1 : Int32)) dX12_feed_109 (by decide) rfl ?_
          refine ax_iadd (pc' := 111) dX12_feed_110 rfl ?_
          refine ax_putI (pc' := 114) dX12_feed_111 fp_X12_107 sh_69 rfl rfl rfl ?_
          refine ax_iinc (pc' := 117) (v := (x6 + (1 : Int32))) dX12_feed_114 rfl rfl rfl rfl rfl ?_
          refine ax_goto (tgt := 23) dX12_feed_117 (by decide) ?_
          refine ax_drop 7 rfl ?_
          exact H
      · have H := H.2 hc44
        refine ax_iload_n (pc' := 48) dX12_feed_47 rfl rfl ?_
        refine ax_goto (tgt := 76) dX12_feed_48 (by decide) ?_
        refine ax_istore (pc' := 78) dX12_feed_76 rfl rfl rfl ?_
        refine ax_aload_n (pc' := 79) dX12_feed_78 rfl rfl ?_
        refine ax_getR (pc' := 82) dX12_feed_79 fl_X12_13 sh_69 rfl rfl rfl ?_
        refine ax_aload_n (pc' := 83) dX12_feed_82 rfl rfl ?_
        refine ax_getI (pc' := 86) dX12_feed_83 fl_X12_107 sh_69 rfl rfl rfl ?_
        refine ax_iload (pc' := 88) dX12_feed_86 rfl rfl ?_
        refine ax_bipush (pc' := 90) (v := (24 : Int32)) dX12_feed_88 (by decide) rfl ?_
        refine ax_bipush (pc' := 92) (v := (8 : Int32)) dX12_feed_90 (by decide) rfl ?_
        refine ax_iload (pc' := 94) dX12_feed_92 rfl rfl ?_
        refine ax_iconst (pc' := 95) (v := (4 : Int32)) dX12_feed_94 (by decide) rfl ?_
        refine ax_irem (pc' := 96) dX12_feed_95 (by decide) rfl ?_
        refine ax_imul (pc' := 97) dX12_feed_96 rfl ?_
        refine ax_isub (pc' := 98) dX12_feed_97 rfl ?_
        refine ax_ishr (pc' := 99) dX12_feed_98 rfl ?_
        refine ax_sipush (pc' := 102) (v := (255 : Int32)) dX12_feed_99 (by decide) rfl ?_
        refine ax_iand (pc' := 103) dX12_feed_102 rfl ?_
        obtain ⟨hj103, H⟩ := H
        refine ax_iast (pc' := 104) dX12_feed_103 sh_70 hj103 rfl rfl ?_
        refine ax_aload_n (pc' := 105) dX12_feed_104 rfl rfl ?_
        refine ax_dup (pc' := 106) dX12_feed_105 rfl rfl ?_
        refine ax_getI (pc' := 109) dX12_feed_106 fl_X12_107 sh_69 rfl rfl rfl ?_
        refine ax_iconst (pc' := 110) (v := (1 : Int32)) dX12_feed_109 (by decide) rfl ?_
        refine ax_iadd (pc' := 111) dX12_feed_110 rfl ?_
        refine ax_putI (pc' := 114) dX12_feed_111 fp_X12_107 sh_69 rfl rfl rfl ?_
        refine ax_iinc (pc' := 117) (v := (x6 + (1 : Int32))) dX12_feed_114 rfl rfl rfl rfl rfl ?_
        refine ax_goto (tgt := 23) dX12_feed_117 (by decide) ?_
        refine ax_drop 7 rfl ?_
        exact H
    · have H := H.2 hc33
      refine ax_iload_n (pc' := 37) dX12_feed_36 rfl rfl ?_
      refine ax_goto (tgt := 76) dX12_feed_37 (by decide) ?_
      refine ax_istore (pc' := 78) dX12_feed_76 rfl rfl rfl ?_
      refine ax_aload_n (pc' := 79) dX12_feed_78 rfl rfl ?_
      refine ax_getR (pc' := 82) dX12_feed_79 fl_X12_13 sh_69 rfl rfl rfl ?_
      refine ax_aload_n (pc' := 83) dX12_feed_82 rfl rfl ?_
      refine ax_getI (pc' := 86) dX12_feed_83 fl_X12_107 sh_69 rfl rfl rfl ?_
      refine ax_iload (pc' := 88) dX12_feed_86 rfl rfl ?_
      refine ax_bipush (pc' := 90) (v := (24 : Int32)) dX12_feed_88 (by decide) rfl ?_
      refine ax_bipush (pc' := 92) (v := (8 : Int32)) dX12_feed_90 (by decide) rfl ?_
      refine ax_iload (pc' := 94) dX12_feed_92 rfl rfl ?_
      refine ax_iconst (pc' := 95) (v := (4 : Int32)) dX12_feed_94 (by decide) rfl ?_
      refine ax_irem (pc' := 96) dX12_feed_95 (by decide) rfl ?_
      refine ax_imul (pc' := 97) dX12_feed_96 rfl ?_
      refine ax_isub (pc' := 98) dX12_feed_97 rfl ?_
      refine ax_ishr (pc' := 99) dX12_feed_98 rfl ?_
      refine ax_sipush (pc' := 102) (v := (255 : Int32)) dX12_feed_99 (by decide) rfl ?_
      refine ax_iand (pc' := 103) dX12_feed_102 rfl ?_
      obtain ⟨hj103, H⟩ := H
      refine ax_iast (pc' := 104) dX12_feed_103 sh_70 hj103 rfl rfl ?_
      refine ax_aload_n (pc' := 105) dX12_feed_104 rfl rfl ?_
      refine ax_dup (pc' := 106) dX12_feed_105 rfl rfl ?_
      refine ax_getI (pc' := 109) dX12_feed_106 fl_X12_107 sh_69 rfl rfl rfl ?_
      refine ax_iconst (pc' := 110) (v := (1 : Int32)) dX12_feed_109 (by decide) rfl ?_
      refine ax_iadd (pc' := 111) dX12_feed_110 rfl ?_
      refine ax_putI (pc' := 114) dX12_feed_111 fp_X12_107 sh_69 rfl rfl rfl ?_
      refine ax_iinc (pc' := 117) (v := (x6 + (1 : Int32))) dX12_feed_114 rfl rfl rfl rfl rfl ?_
      refine ax_goto (tgt := 23) dX12_feed_117 (by decide) ?_
      refine ax_drop 7 rfl ?_
      exact H
theorem o_X12_feed {g : ac_G} {τ : Nat → Nat → Int64} (d : Nat) (p1 : Int32) (p2 : Int32) (p3 : Int32) (p4 : Int32) (p5 : Int32) {Q : Int32 → ac_m → Prop} {s : ac_m} (H : w_X12_feed p1 p2 p3 p4 p5 Q s) : ac_M g i_X12_feed d 0 0 [.ref 69, .int p1, .int p2, .int p3, .int p4, .int p5] (false, 586, SH, s, τ) (liI τ Q) := by
  refine ac_ofX (by decide +kernel) rfl rfl rfl ?_
  refine ax_aload_n (pc' := 1) dX12_feed_0 rfl rfl ?_
  refine ax_iconst (pc' := 2) (v := (0 : Int32)) dX12_feed_1 (by decide) rfl ?_
  refine ax_putI (pc' := 5) dX12_feed_2 fp_X12_104 sh_69 rfl rfl rfl ?_
  refine ax_aload_n (pc' := 6) dX12_feed_5 rfl rfl ?_
  refine ax_getI (pc' := 9) dX12_feed_6 fl_X12_107 sh_69 rfl rfl rfl ?_
  refine ax_bipush (pc' := 11) (v := (20 : Int32)) dX12_feed_9 (by decide) rfl ?_
  refine ax_iadd (pc' := 12) dX12_feed_11 rfl ?_
  refine ax_sipush (pc' := 15) (v := (600 : Int32)) dX12_feed_12 (by decide) rfl ?_
  refine ax_icmp_le (pc' := 18) (tgt := 20) dX12_feed_15 (by decide) rfl (fun hc15 => ?_) (fun hc15 => ?_)
  · have H := H.1 hc15
    refine ax_iconst (pc' := 21) (v := (0 : Int32)) dX12_feed_20 (by decide) rfl ?_
    refine ax_istore (pc' := 23) dX12_feed_21 rfl rfl rfl ?_
    refine ol_X12_feed_23 d p1 p2 p3 p4 p5  _ _ _ _ _    H
  · have H := H.2 hc15
    refine ax_iconst (pc' := 19) (v := (-1 : Int32)) dX12_feed_18 (by decide) rfl ?_
    exact ax_iret dX12_feed_19 rfl rfl rfl ⟨_, _, rfl, rfl, H⟩
theorem o_X12_byteAt {g : ac_G} {τ : Nat → Nat → Int64} (d : Nat) (p1 : Int32) {Q : Int32 → ac_m → Prop} {s : ac_m} (H : w_X12_byteAt p1 Q s) : ac_M g i_X12_byteAt d 0 0 [.ref 69, .int p1] (false, 586, SH, s, τ) (liI τ Q) := by
  refine ac_ofX (by decide +kernel) rfl rfl rfl ?_
  refine ax_iload_n (pc' := 1) dX12_byteAt_0 rfl rfl ?_
  refine ax_aload_n (pc' := 2) dX12_byteAt_1 rfl rfl ?_
  refine ax_getI (pc' := 5) dX12_byteAt_2 fl_X12_110 sh_69 rfl rfl rfl ?_
  refine ax_icmp_lt (pc' := 8) (tgt := 12) dX12_byteAt_5 (by decide) rfl (fun hc5 => ?_) (fun hc5 => ?_)
  · have H := H.1 hc5
    refine ax_aload_n (pc' := 13) dX12_byteAt_12 rfl rfl ?_
    refine ax_getR (pc' := 16) dX12_byteAt_13 fl_X12_13 sh_69 rfl rfl rfl ?_
    refine ax_iload_n (pc' := 17) dX12_byteAt_16 rfl rfl ?_
    obtain ⟨hj17, H⟩ := H
    refine ax_iald (pc' := 18) dX12_byteAt_17 sh_70 hj17 rfl rfl ?_
    exact ax_iret dX12_byteAt_18 rfl rfl rfl ⟨_, _, rfl, rfl, H⟩
  · have H := H.2 hc5
    refine ax_iconst (pc' := 9) (v := (-1 : Int32)) dX12_byteAt_8 (by decide) rfl ?_
    refine ax_goto (tgt := 18) dX12_byteAt_9 (by decide) ?_
    exact ax_iret dX12_byteAt_18 rfl rfl rfl ⟨_, _, rfl, rfl, H⟩
theorem ol_X12_blanks_0 {g : ac_G} {τ : Nat → Nat → Int64} (d : Nat)  {Q : ac_m → Prop}     {s : ac_m} (H : l_X12_blanks_0  Q     s) : ac_X g i_X12_blanks (d + 1) 0 0 (liV τ Q) 0 0 0 [some (.ref 69)] [] (false, 586, SH, s, τ) := by
  refine H (fun  s => ac_X g i_X12_blanks (d + 1) 0 0 (liV τ Q) 0 0 0 [some (.ref 69)] [] (false, 586, SH, s, τ)) ?_
  intro  s H
  refine ax_aload_n (pc' := 1) dX12_blanks_0 rfl rfl ?_
  refine ax_aload_n (pc' := 2) dX12_blanks_1 rfl rfl ?_
  refine ax_getI (pc' := 5) dX12_blanks_2 fl_X12_113 sh_69 rfl rfl rfl ?_
  refine ay_V1 (pc' := 8) (ce' := 0) (sl' := 0) (mc2 := 0) (ms2 := 0) (I2 := i_X12_byteAt) dX12_blanks_5 ml_X12_116 sh_69 (by decide) rfl rfl rfl rfl rfl rfl rfl rfl rfl (ac_M.imp (o_X12_byteAt _ (s 69 4) H) ?_)
  rintro _ _ ⟨r5, s5, rfl, rfl, H⟩
  refine ax_bipush (pc' := 10) (v := (32 : Int32)) dX12_blanks_8 (by decide) rfl ?_
  refine ax_icmp_ne (pc' := 13) (tgt := 26) dX12_blanks_10 (by decide) rfl (fun hc10 => ?_) (fun hc10 => ?_)
  · have H := H.1 hc10
    exact ax_vret dX12_blanks_26 rfl rfl rfl ⟨_, rfl, rfl, H⟩
  · have H := H.2 hc10
    refine ax_aload_n (pc' := 14) dX12_blanks_13 rfl rfl ?_
    refine ax_dup (pc' := 15) dX12_blanks_14 rfl rfl ?_
    refine ax_getI (pc' := 18) dX12_blanks_15 fl_X12_113 sh_69 rfl rfl rfl ?_
    refine ax_iconst (pc' := 19) (v := (1 : Int32)) dX12_blanks_18 (by decide) rfl ?_
    refine ax_iadd (pc' := 20) dX12_blanks_19 rfl ?_
    refine ax_putI (pc' := 23) dX12_blanks_20 fp_X12_113 sh_69 rfl rfl rfl ?_
    refine ax_goto (tgt := 0) dX12_blanks_23 (by decide) ?_
    exact H
theorem o_X12_blanks {g : ac_G} {τ : Nat → Nat → Int64} (d : Nat)  {Q : ac_m → Prop} {s : ac_m} (H : w_X12_blanks  Q s) : ac_M g i_X12_blanks (d + 1) 0 0 [.ref 69] (false, 586, SH, s, τ) (liV τ Q) := by
  refine ac_ofX (by decide +kernel) rfl rfl rfl ?_
  refine ol_X12_blanks_0 d       H
theorem o_X12_wrong {g : ac_G} {τ : Nat → Nat → Int64} (d : Nat) (p1 : Int32) (p2 : Int32) {Q : ac_m → Prop} {s : ac_m} (H : w_X12_wrong p1 p2 Q s) : ac_M g i_X12_wrong d 0 0 [.ref 69, .int p1, .int p2] (false, 586, SH, s, τ) (liV τ Q) := by
  refine ac_ofX (by decide +kernel) rfl rfl rfl ?_
  refine ax_aload_n (pc' := 1) dX12_wrong_0 rfl rfl ?_
  refine ax_getI (pc' := 4) dX12_wrong_1 fl_X12_120 sh_69 rfl rfl rfl ?_
  refine ax_if_ne (pc' := 7) (tgt := 17) dX12_wrong_4 (by decide) rfl (fun hc4 => ?_) (fun hc4 => ?_)
  · have H := H.1 hc4
    exact ax_vret dX12_wrong_17 rfl rfl rfl ⟨_, rfl, rfl, H⟩
  · have H := H.2 hc4
    refine ax_aload_n (pc' := 8) dX12_wrong_7 rfl rfl ?_
    refine ax_iload_n (pc' := 9) dX12_wrong_8 rfl rfl ?_
    refine ax_putI (pc' := 12) dX12_wrong_9 fp_X12_120 sh_69 rfl rfl rfl ?_
    refine ax_aload_n (pc' := 13) dX12_wrong_12 rfl rfl ?_
    refine ax_iload_n (pc' := 14) dX12_wrong_13 rfl rfl ?_
    refine ax_putI (pc' := 17) dX12_wrong_14 fp_X12_123 sh_69 rfl rfl rfl ?_
    exact ax_vret dX12_wrong_17 rfl rfl rfl ⟨_, rfl, rfl, H⟩
theorem o_X12_isDigit {g : ac_G} {τ : Nat → Nat → Int64} (d : Nat) (p1 : Int32) {Q : Int32 → ac_m → Prop} {s : ac_m} (H : w_X12_isDigit p1 Q s) : ac_M g i_X12_isDigit d 0 0 [.int p1] (false, 586, SH, s, τ) (liI τ Q) := by
  refine ac_ofX (by decide +kernel) rfl rfl rfl ?_
  refine ax_iload_n (pc' := 1) dX12_isDigit_0 rfl rfl ?_
  refine ax_bipush (pc' := 3) (v := (48 : Int32)) dX12_isDigit_1 (by decide) rfl ?_
  refine ax_icmp_lt (pc' := 6) (tgt := 16) dX12_isDigit_3 (by decide) rfl (fun hc3 => ?_) (fun hc3 => ?_)
  · have H := H.1 hc3
    refine ax_iconst (pc' := 17) (v := (0 : Int32)) dX12_isDigit_16 (by decide) rfl ?_
    exact ax_zret dX12_isDigit_17 rfl rfl rfl rfl ⟨_, _, rfl, rfl, H⟩
  · have H := H.2 hc3
    refine ax_iload_n (pc' := 7) dX12_isDigit_6 rfl rfl ?_
    refine ax_bipush (pc' := 9) (v := (57 : Int32)) dX12_isDigit_7 (by decide) rfl ?_
    refine ax_icmp_gt (pc' := 12) (tgt := 16) dX12_isDigit_9 (by decide) rfl (fun hc9 => ?_) (fun hc9 => ?_)
    · have H := H.1 hc9
      refine ax_iconst (pc' := 17) (v := (0 : Int32)) dX12_isDigit_16 (by decide) rfl ?_
      exact ax_zret dX12_isDigit_17 rfl rfl rfl rfl ⟨_, _, rfl, rfl, H⟩
    · have H := H.2 hc9
      refine ax_iconst (pc' := 13) (v := (1 : Int32)) dX12_isDigit_12 (by decide) rfl ?_
      refine ax_goto (tgt := 17) dX12_isDigit_13 (by decide) ?_
      exact ax_zret dX12_isDigit_17 rfl rfl rfl rfl ⟨_, _, rfl, rfl, H⟩
theorem o_X12_isSmall {g : ac_G} {τ : Nat → Nat → Int64} (d : Nat) (p1 : Int32) {Q : Int32 → ac_m → Prop} {s : ac_m} (H : w_X12_isSmall p1 Q s) : ac_M g i_X12_isSmall d 0 0 [.int p1] (false, 586, SH, s, τ) (liI τ Q) := by
  refine ac_ofX (by decide +kernel) rfl rfl rfl ?_
  refine ax_iload_n (pc' := 1) dX12_isSmall_0 rfl rfl ?_
  refine ax_bipush (pc' := 3) (v := (97 : Int32)) dX12_isSmall_1 (by decide) rfl ?_
  refine ax_icmp_lt (pc' := 6) (tgt := 16) dX12_isSmall_3 (by decide) rfl (fun hc3 => ?_) (fun hc3 => ?_)
  · have H := H.1 hc3
    refine ax_iconst (pc' := 17) (v := (0 : Int32)) dX12_isSmall_16 (by decide) rfl ?_
    exact ax_zret dX12_isSmall_17 rfl rfl rfl rfl ⟨_, _, rfl, rfl, H⟩
  · have H := H.2 hc3
    refine ax_iload_n (pc' := 7) dX12_isSmall_6 rfl rfl ?_
    refine ax_bipush (pc' := 9) (v := (122 : Int32)) dX12_isSmall_7 (by decide) rfl ?_
    refine ax_icmp_gt (pc' := 12) (tgt := 16) dX12_isSmall_9 (by decide) rfl (fun hc9 => ?_) (fun hc9 => ?_)
    · have H := H.1 hc9
      refine ax_iconst (pc' := 17) (v := (0 : Int32)) dX12_isSmall_16 (by decide) rfl ?_
      exact ax_zret dX12_isSmall_17 rfl rfl rfl rfl ⟨_, _, rfl, rfl, H⟩
    · have H := H.2 hc9
      refine ax_iconst (pc' := 13) (v := (1 : Int32)) dX12_isSmall_12 (by decide) rfl ?_
      refine ax_goto (tgt := 17) dX12_isSmall_13 (by decide) ?_
      exact ax_zret dX12_isSmall_17 rfl rfl rfl rfl ⟨_, _, rfl, rfl, H⟩
theorem ol_X12_number_44 {g : ac_G} {τ : Nat → Nat → Int64} (d : Nat) (p1 : Int32) (p2 : Int32) {Q : Int32 → ac_m → Prop}  (f1 : Int32) (f2 : Int32) (f3 : Int32)  {x4 : Int32} {s : ac_m} (H : l_X12_number_44 p1 p2 Q  f1 f2 f3  x4 s) : ac_X g i_X12_number (d + 2) 0 0 (liI τ Q) 0 0 44 [some (.ref 69), some (.int f1), some (.int f2), some (.int f3), some (.int x4)] [] (false, 586, SH, s, τ) := by
  refine H (fun x4 s => ac_X g i_X12_number (d + 2) 0 0 (liI τ Q) 0 0 44 [some (.ref 69), some (.int f1), some (.int f2), some (.int f3), some (.int x4)] [] (false, 586, SH, s, τ)) ?_
  intro x4 s H
  refine ax_aload_n (pc' := 45) dX12_number_44 rfl rfl ?_
  refine ax_aload_n (pc' := 46) dX12_number_45 rfl rfl ?_
  refine ax_getI (pc' := 49) dX12_number_46 fl_X12_113 sh_69 rfl rfl rfl ?_
  refine ay_V1 (pc' := 52) (ce' := 0) (sl' := 0) (mc2 := 0) (ms2 := 0) (I2 := i_X12_byteAt) dX12_number_49 ml_X12_116 sh_69 (by decide) rfl rfl rfl rfl rfl rfl rfl rfl rfl (ac_M.imp (o_X12_byteAt _ (s 69 4) H) ?_)
  rintro _ _ ⟨r49, s49, rfl, rfl, H⟩
  refine ay_S1 (pc' := 55) (ce' := 0) (sl' := 0) (mc2 := 0) (ms2 := 0) (I2 := i_X12_isDigit) dX12_number_52 ml_X12_129 rfl rfl rfl rfl rfl rfl rfl rfl (ac_M.imp (o_X12_isDigit _ r49 H) ?_)
  rintro _ _ ⟨r52, s52, rfl, rfl, H⟩
  refine ax_if_eq (pc' := 58) (tgt := 106) dX12_number_55 (by decide) rfl (fun hc55 => ?_) (fun hc55 => ?_)
  · have H := H.1 hc55
    refine ax_iload (pc' := 108) dX12_number_106 rfl rfl ?_
    refine ax_iload_n (pc' := 109) dX12_number_108 rfl rfl ?_
    refine ax_iload_n (pc' := 110) dX12_number_109 rfl rfl ?_
    refine ay_S3 (pc' := 113) (ce' := 0) (sl' := 0) (mc2 := 0) (ms2 := 0) (I2 := i_X12_in) dX12_number_110 ml_X12_138 rfl rfl rfl rfl rfl rfl rfl rfl (ac_M.imp (o_X12_in _ x4 f1 f2 H) ?_)
    rintro _ _ ⟨r110, s110, rfl, rfl, H⟩
    refine ax_if_ne (pc' := 116) (tgt := 122) dX12_number_113 (by decide) rfl (fun hc113 => ?_) (fun hc113 => ?_)
    · have H := H.1 hc113
      refine ax_aload_n (pc' := 123) dX12_number_122 rfl rfl ?_
      refine ax_getI (pc' := 126) dX12_number_123 fl_X12_120 sh_69 rfl rfl rfl ?_
      refine ax_if_ne (pc' := 129) (tgt := 134) dX12_number_126 (by decide) rfl (fun hc126 => ?_) (fun hc126 => ?_)
      · have H := H.1 hc126
        refine ax_iconst (pc' := 135) (v := (0 : Int32)) dX12_number_134 (by decide) rfl ?_
        exact ax_iret dX12_number_135 rfl rfl rfl ⟨_, _, rfl, rfl, H⟩
      · have H := H.2 hc126
        refine ax_iload (pc' := 131) dX12_number_129 rfl rfl ?_
        refine ax_goto (tgt := 135) dX12_number_131 (by decide) ?_
        exact ax_iret dX12_number_135 rfl rfl rfl ⟨_, _, rfl, rfl, H⟩
    · have H := H.2 hc113
      refine ax_aload_n (pc' := 117) dX12_number_116 rfl rfl ?_
      refine ax_iconst (pc' := 118) (v := (2 : Int32)) dX12_number_117 (by decide) rfl ?_
      refine ax_iload_n (pc' := 119) dX12_number_118 rfl rfl ?_
      refine ay_V2 (pc' := 122) (ce' := 0) (sl' := 0) (mc2 := 0) (ms2 := 0) (I2 := i_X12_wrong) dX12_number_119 ml_X12_133 sh_69 (by decide) rfl rfl rfl rfl rfl rfl rfl rfl rfl (ac_M.imp (o_X12_wrong _ (2 : Int32) f3 H) ?_)
      rintro _ _ ⟨s119, rfl, rfl, H⟩
      refine ax_aload_n (pc' := 123) dX12_number_122 rfl rfl ?_
      refine ax_getI (pc' := 126) dX12_number_123 fl_X12_120 sh_69 rfl rfl rfl ?_
      refine ax_if_ne (pc' := 129) (tgt := 134) dX12_number_126 (by decide) rfl (fun hc126 => ?_) (fun hc126 => ?_)
      · have H := H.1 hc126
        refine ax_iconst (pc' := 135) (v := (0 : Int32)) dX12_number_134 (by decide) rfl ?_
        exact ax_iret dX12_number_135 rfl rfl rfl ⟨_, _, rfl, rfl, H⟩
      · have H := H.2 hc126
        refine ax_iload (pc' := 131) dX12_number_129 rfl rfl ?_
        refine ax_goto (tgt := 135) dX12_number_131 (by decide) ?_
        exact ax_iret dX12_number_135 rfl rfl rfl ⟨_, _, rfl, rfl, H⟩
  · have H := H.2 hc55
    refine ax_bipush (pc' := 60) (v := (10 : Int32)) dX12_number_58 (by decide) rfl ?_
    refine ax_iload (pc' := 62) dX12_number_60 rfl rfl ?_
    refine ax_imul (pc' := 63) dX12_number_62 rfl ?_
    refine ax_aload_n (pc' := 64) dX12_number_63 rfl rfl ?_
    refine ax_aload_n (pc' := 65) dX12_number_64 rfl rfl ?_
    refine ax_getI (pc' := 68) dX12_number_65 fl_X12_113 sh_69 rfl rfl rfl ?_
    refine ay_V1 (pc' := 71) (ce' := 0) (sl' := 0) (mc2 := 0) (ms2 := 0) (I2 := i_X12_byteAt) dX12_number_68 ml_X12_116 sh_69 (by decide) rfl rfl rfl rfl rfl rfl rfl rfl rfl (ac_M.imp (o_X12_byteAt _ (s52 69 4) H) ?_)
    rintro _ _ ⟨r68, s68, rfl, rfl, H⟩
    refine ax_iadd (pc' := 72) dX12_number_71 rfl ?_
    refine ax_bipush (pc' := 74) (v := (48 : Int32)) dX12_number_72 (by decide) rfl ?_
    refine ax_isub (pc' := 75) dX12_number_74 rfl ?_
    refine ax_istore (pc' := 77) dX12_number_75 rfl rfl rfl ?_
    refine ax_iload (pc' := 79) dX12_number_77 rfl rfl ?_
    refine ax_ldc (pc' := 81) dX12_number_79 ck_X12_137 rfl ?_
    refine ax_icmp_le (pc' := 84) (tgt := 89) dX12_number_81 (by decide) rfl (fun hc81 => ?_) (fun hc81 => ?_)
    · have H := H.1 hc81
      refine ax_iload (pc' := 91) dX12_number_89 rfl rfl ?_
      refine ax_istore (pc' := 93) dX12_number_91 rfl rfl rfl ?_
      refine ax_aload_n (pc' := 94) dX12_number_93 rfl rfl ?_
      refine ax_dup (pc' := 95) dX12_number_94 rfl rfl ?_
      refine ax_getI (pc' := 98) dX12_number_95 fl_X12_113 sh_69 rfl rfl rfl ?_
      refine ax_iconst (pc' := 99) (v := (1 : Int32)) dX12_number_98 (by decide) rfl ?_
      refine ax_iadd (pc' := 100) dX12_number_99 rfl ?_
      refine ax_putI (pc' := 103) dX12_number_100 fp_X12_113 sh_69 rfl rfl rfl ?_
      refine ax_goto (tgt := 44) dX12_number_103 (by decide) ?_
      exact H
    · have H := H.2 hc81
      refine ax_ldc (pc' := 86) dX12_number_84 ck_X12_137 rfl ?_
      refine ax_goto (tgt := 91) dX12_number_86 (by decide) ?_
      refine ax_istore (pc' := 93) dX12_number_91 rfl rfl rfl ?_
      refine ax_aload_n (pc' := 94) dX12_number_93 rfl rfl ?_
      refine ax_dup (pc' := 95) dX12_number_94 rfl rfl ?_
      refine ax_getI (pc' := 98) dX12_number_95 fl_X12_113 sh_69 rfl rfl rfl ?_
      refine ax_iconst (pc' := 99) (v := (1 : Int32)) dX12_number_98 (by decide) rfl ?_
      refine ax_iadd (pc' := 100) dX12_number_99 rfl ?_
      refine ax_putI (pc' := 103) dX12_number_100 fp_X12_113 sh_69 rfl rfl rfl ?_
      refine ax_goto (tgt := 44) dX12_number_103 (by decide) ?_
      exact H
theorem o_X12_number {g : ac_G} {τ : Nat → Nat → Int64} (d : Nat) (p1 : Int32) (p2 : Int32) {Q : Int32 → ac_m → Prop} {s : ac_m} (H : w_X12_number p1 p2 Q s) : ac_M g i_X12_number (d + 2) 0 0 [.ref 69, .int p1, .int p2] (false, 586, SH, s, τ) (liI τ Q) := by
  refine ac_ofX (by decide +kernel) rfl rfl rfl ?_
  refine ax_aload_n (pc' := 1) dX12_number_0 rfl rfl ?_
  refine ax_getI (pc' := 4) dX12_number_1 fl_X12_120 sh_69 rfl rfl rfl ?_
  refine ax_if_eq (pc' := 7) (tgt := 9) dX12_number_4 (by decide) rfl (fun hc4 => ?_) (fun hc4 => ?_)
  · have H := H.1 hc4
    refine ax_aload_n (pc' := 10) dX12_number_9 rfl rfl ?_
    refine ay_V0 (pc' := 13) (ce' := 0) (sl' := 0) (mc2 := 0) (ms2 := 0) (I2 := i_X12_blanks) dX12_number_10 ml_X12_126 sh_69 (by decide) rfl rfl rfl rfl rfl rfl rfl rfl rfl (ac_M.imp (o_X12_blanks _  H) ?_)
    rintro _ _ ⟨s10, rfl, rfl, H⟩
    refine ax_aload_n (pc' := 14) dX12_number_13 rfl rfl ?_
    refine ax_getI (pc' := 17) dX12_number_14 fl_X12_113 sh_69 rfl rfl rfl ?_
    refine ax_istore_n (pc' := 18) dX12_number_17 rfl rfl rfl ?_
    refine ax_iconst (pc' := 19) (v := (0 : Int32)) dX12_number_18 (by decide) rfl ?_
    refine ax_istore (pc' := 21) dX12_number_19 rfl rfl rfl ?_
    refine ax_aload_n (pc' := 22) dX12_number_21 rfl rfl ?_
    refine ax_aload_n (pc' := 23) dX12_number_22 rfl rfl ?_
    refine ax_getI (pc' := 26) dX12_number_23 fl_X12_113 sh_69 rfl rfl rfl ?_
    refine ay_V1 (pc' := 29) (ce' := 0) (sl' := 0) (mc2 := 0) (ms2 := 0) (I2 := i_X12_byteAt) dX12_number_26 ml_X12_116 sh_69 (by decide) rfl rfl rfl rfl rfl rfl rfl rfl rfl (ac_M.imp (o_X12_byteAt _ (s10 69 4) H) ?_)
    rintro _ _ ⟨r26, s26, rfl, rfl, H⟩
    refine ay_S1 (pc' := 32) (ce' := 0) (sl' := 0) (mc2 := 0) (ms2 := 0) (I2 := i_X12_isDigit) dX12_number_29 ml_X12_129 rfl rfl rfl rfl rfl rfl rfl rfl (ac_M.imp (o_X12_isDigit _ r26 H) ?_)
    rintro _ _ ⟨r29, s29, rfl, rfl, H⟩
    refine ax_if_ne (pc' := 35) (tgt := 44) dX12_number_32 (by decide) rfl (fun hc32 => ?_) (fun hc32 => ?_)
    · have H := H.1 hc32
      refine ol_X12_number_44 d p1 p2  _ _ _    H
    · have H := H.2 hc32
      refine ax_aload_n (pc' := 36) dX12_number_35 rfl rfl ?_
      refine ax_iconst (pc' := 37) (v := (1 : Int32)) dX12_number_36 (by decide) rfl ?_
      refine ax_aload_n (pc' := 38) dX12_number_37 rfl rfl ?_
      refine ax_getI (pc' := 41) dX12_number_38 fl_X12_113 sh_69 rfl rfl rfl ?_
      refine ay_V2 (pc' := 44) (ce' := 0) (sl' := 0) (mc2 := 0) (ms2 := 0) (I2 := i_X12_wrong) dX12_number_41 ml_X12_133 sh_69 (by decide) rfl rfl rfl rfl rfl rfl rfl rfl rfl (ac_M.imp (o_X12_wrong _ (1 : Int32) (s29 69 4) H) ?_)
      rintro _ _ ⟨s41, rfl, rfl, H⟩
      refine ol_X12_number_44 d p1 p2  _ _ _    H
  · have H := H.2 hc4
    refine ax_iconst (pc' := 8) (v := (0 : Int32)) dX12_number_7 (by decide) rfl ?_
    exact ax_iret dX12_number_8 rfl rfl rfl ⟨_, _, rfl, rfl, H⟩
theorem ol_X12_wordHere_8 {g : ac_G} {τ : Nat → Nat → Int64} (d : Nat)  {Q : Int32 → ac_m → Prop}    {x1 : Int32} {x2 : Int32} {s : ac_m} (H : l_X12_wordHere_8  Q    x1 x2 s) : ac_X g i_X12_wordHere (d + 2) 0 0 (liI τ Q) 0 0 8 [some (.ref 69), some (.int x1), some (.int x2)] [] (false, 586, SH, s, τ) := by
  refine H (fun x1 x2 s => ac_X g i_X12_wordHere (d + 2) 0 0 (liI τ Q) 0 0 8 [some (.ref 69), some (.int x1), some (.int x2)] [] (false, 586, SH, s, τ)) ?_
  intro x1 x2 s H
  refine ax_aload_n (pc' := 9) dX12_wordHere_8 rfl rfl ?_
  refine ax_aload_n (pc' := 10) dX12_wordHere_9 rfl rfl ?_
  refine ax_getI (pc' := 13) dX12_wordHere_10 fl_X12_113 sh_69 rfl rfl rfl ?_
  refine ax_iload_n (pc' := 14) dX12_wordHere_13 rfl rfl ?_
  refine ax_iadd (pc' := 15) dX12_wordHere_14 rfl ?_
  refine ay_V1 (pc' := 18) (ce' := 0) (sl' := 0) (mc2 := 0) (ms2 := 0) (I2 := i_X12_byteAt) dX12_wordHere_15 ml_X12_116 sh_69 (by decide) rfl rfl rfl rfl rfl rfl rfl rfl rfl (ac_M.imp (o_X12_byteAt _ ((s 69 4) + x2) H) ?_)
  rintro _ _ ⟨r15, s15, rfl, rfl, H⟩
  refine ay_S1 (pc' := 21) (ce' := 0) (sl' := 0) (mc2 := 0) (ms2 := 0) (I2 := i_X12_isSmall) dX12_wordHere_18 ml_X12_142 rfl rfl rfl rfl rfl rfl rfl rfl (ac_M.imp (o_X12_isSmall _ r15 H) ?_)
  rintro _ _ ⟨r18, s18, rfl, rfl, H⟩
  refine ax_if_eq (pc' := 24) (tgt := 61) dX12_wordHere_21 (by decide) rfl (fun hc21 => ?_) (fun hc21 => ?_)
  · have H := H.1 hc21
    refine ax_iload_n (pc' := 62) dX12_wordHere_61 rfl rfl ?_
    refine ax_bipush (pc' := 64) (v := (6 : Int32)) dX12_wordHere_62 (by decide) rfl ?_
    refine ax_icmp_le (pc' := 67) (tgt := 71) dX12_wordHere_64 (by decide) rfl (fun hc64 => ?_) (fun hc64 => ?_)
    · have H := H.1 hc64
      refine ax_iload_n (pc' := 72) dX12_wordHere_71 rfl rfl ?_
      exact ax_iret dX12_wordHere_72 rfl rfl rfl ⟨_, _, rfl, rfl, H⟩
    · have H := H.2 hc64
      refine ax_iconst (pc' := 68) (v := (-1 : Int32)) dX12_wordHere_67 (by decide) rfl ?_
      refine ax_goto (tgt := 72) dX12_wordHere_68 (by decide) ?_
      exact ax_iret dX12_wordHere_72 rfl rfl rfl ⟨_, _, rfl, rfl, H⟩
  · have H := H.2 hc21
    refine ax_iload_n (pc' := 25) dX12_wordHere_24 rfl rfl ?_
    refine ax_bipush (pc' := 27) (v := (6 : Int32)) dX12_wordHere_25 (by decide) rfl ?_
    refine ax_icmp_ge (pc' := 30) (tgt := 53) dX12_wordHere_27 (by decide) rfl (fun hc27 => ?_) (fun hc27 => ?_)
    · have H := H.1 hc27
      refine ax_iload_n (pc' := 54) dX12_wordHere_53 rfl rfl ?_
      refine ax_istore_n (pc' := 55) dX12_wordHere_54 rfl rfl rfl ?_
      refine ax_iinc (pc' := 58) (v := (x2 + (1 : Int32))) dX12_wordHere_55 rfl rfl rfl rfl rfl ?_
      refine ax_goto (tgt := 8) dX12_wordHere_58 (by decide) ?_
      exact H
    · have H := H.2 hc27
      refine ax_bipush (pc' := 32) (v := (27 : Int32)) dX12_wordHere_30 (by decide) rfl ?_
      refine ax_iload_n (pc' := 33) dX12_wordHere_32 rfl rfl ?_
      refine ax_imul (pc' := 34) dX12_wordHere_33 rfl ?_
      refine ax_aload_n (pc' := 35) dX12_wordHere_34 rfl rfl ?_
      refine ax_aload_n (pc' := 36) dX12_wordHere_35 rfl rfl ?_
      refine ax_getI (pc' := 39) dX12_wordHere_36 fl_X12_113 sh_69 rfl rfl rfl ?_
      refine ax_iload_n (pc' := 40) dX12_wordHere_39 rfl rfl ?_
      refine ax_iadd (pc' := 41) dX12_wordHere_40 rfl ?_
      refine ay_V1 (pc' := 44) (ce' := 0) (sl' := 0) (mc2 := 0) (ms2 := 0) (I2 := i_X12_byteAt) dX12_wordHere_41 ml_X12_116 sh_69 (by decide) rfl rfl rfl rfl rfl rfl rfl rfl rfl (ac_M.imp (o_X12_byteAt _ ((s18 69 4) + x2) H) ?_)
      rintro _ _ ⟨r41, s41, rfl, rfl, H⟩
      refine ax_iadd (pc' := 45) dX12_wordHere_44 rfl ?_
      refine ax_bipush (pc' := 47) (v := (97 : Int32)) dX12_wordHere_45 (by decide) rfl ?_
      refine ax_isub (pc' := 48) dX12_wordHere_47 rfl ?_
      refine ax_iconst (pc' := 49) (v := (1 : Int32)) dX12_wordHere_48 (by decide) rfl ?_
      refine ax_iadd (pc' := 50) dX12_wordHere_49 rfl ?_
      refine ax_goto (tgt := 54) dX12_wordHere_50 (by decide) ?_
      refine ax_istore_n (pc' := 55) dX12_wordHere_54 rfl rfl rfl ?_
      refine ax_iinc (pc' := 58) (v := (x2 + (1 : Int32))) dX12_wordHere_55 rfl rfl rfl rfl rfl ?_
      refine ax_goto (tgt := 8) dX12_wordHere_58 (by decide) ?_
      exact H
theorem o_X12_wordHere {g : ac_G} {τ : Nat → Nat → Int64} (d : Nat)  {Q : Int32 → ac_m → Prop} {s : ac_m} (H : w_X12_wordHere  Q s) : ac_M g i_X12_wordHere (d + 2) 0 0 [.ref 69] (false, 586, SH, s, τ) (liI τ Q) := by
  refine ac_ofX (by decide +kernel) rfl rfl rfl ?_
  refine ax_aload_n (pc' := 1) dX12_wordHere_0 rfl rfl ?_
  refine ay_V0 (pc' := 4) (ce' := 0) (sl' := 0) (mc2 := 0) (ms2 := 0) (I2 := i_X12_blanks) dX12_wordHere_1 ml_X12_126 sh_69 (by decide) rfl rfl rfl rfl rfl rfl rfl rfl rfl (ac_M.imp (o_X12_blanks _  H) ?_)
  rintro _ _ ⟨s1, rfl, rfl, H⟩
  refine ax_iconst (pc' := 5) (v := (0 : Int32)) dX12_wordHere_4 (by decide) rfl ?_
  refine ax_istore_n (pc' := 6) dX12_wordHere_5 rfl rfl rfl ?_
  refine ax_iconst (pc' := 7) (v := (0 : Int32)) dX12_wordHere_6 (by decide) rfl ?_
  refine ax_istore_n (pc' := 8) dX12_wordHere_7 rfl rfl rfl ?_
  refine ol_X12_wordHere_8 d       H
theorem o_X12_six {g : ac_G} {τ : Nat → Nat → Int64} (d : Nat) (p1 : Int32) (p2 : Int32) (p3 : Int32) (p4 : Int32) (p5 : Int32) (p6 : Int32) {Q : Int32 → ac_m → Prop} {s : ac_m} (H : w_X12_six p1 p2 p3 p4 p5 p6 Q s) : ac_M g i_X12_six d 0 0 [.int p1, .int p2, .int p3, .int p4, .int p5, .int p6] (false, 586, SH, s, τ) (liI τ Q) := by
  refine ac_ofX (by decide +kernel) rfl rfl rfl ?_
  refine ax_bipush (pc' := 2) (v := (27 : Int32)) dX12_six_0 (by decide) rfl ?_
  refine ax_bipush (pc' := 4) (v := (27 : Int32)) dX12_six_2 (by decide) rfl ?_
  refine ax_iload_n (pc' := 5) dX12_six_4 rfl rfl ?_
  refine ax_imul (pc' := 6) dX12_six_5 rfl ?_
  refine ax_iload_n (pc' := 7) dX12_six_6 rfl rfl ?_
  refine ax_iadd (pc' := 8) dX12_six_7 rfl ?_
  refine ax_imul (pc' := 9) dX12_six_8 rfl ?_
  refine ax_iload_n (pc' := 10) dX12_six_9 rfl rfl ?_
  refine ax_iadd (pc' := 11) dX12_six_10 rfl ?_
  refine ax_istore (pc' := 13) dX12_six_11 rfl rfl rfl ?_
  refine ax_iload_n (pc' := 14) dX12_six_13 rfl rfl ?_
  refine ax_if_ne (pc' := 17) (tgt := 22) dX12_six_14 (by decide) rfl (fun hc14 => ?_) (fun hc14 => ?_)
  · have H := H.1 hc14
    refine ax_bipush (pc' := 24) (v := (27 : Int32)) dX12_six_22 (by decide) rfl ?_
    refine ax_iload (pc' := 26) dX12_six_24 rfl rfl ?_
    refine ax_imul (pc' := 27) dX12_six_26 rfl ?_
    refine ax_iload_n (pc' := 28) dX12_six_27 rfl rfl ?_
    refine ax_iadd (pc' := 29) dX12_six_28 rfl ?_
    refine ax_topi (fun y29 hy29 => ?_)
    have H := H y29 hy29
    refine ax_istore (pc' := 31) dX12_six_29 rfl rfl rfl ?_
    refine ax_iload (pc' := 33) dX12_six_31 rfl rfl ?_
    refine ax_if_ne (pc' := 36) (tgt := 41) dX12_six_33 (by decide) rfl (fun hc33 => ?_) (fun hc33 => ?_)
    · have H := H.1 hc33
      refine ax_bipush (pc' := 43) (v := (27 : Int32)) dX12_six_41 (by decide) rfl ?_
      refine ax_iload (pc' := 45) dX12_six_43 rfl rfl ?_
      refine ax_imul (pc' := 46) dX12_six_45 rfl ?_
      refine ax_iload (pc' := 48) dX12_six_46 rfl rfl ?_
      refine ax_iadd (pc' := 49) dX12_six_48 rfl ?_
      refine ax_istore (pc' := 51) dX12_six_49 rfl rfl rfl ?_
      refine ax_iload (pc' := 53) dX12_six_51 rfl rfl ?_
      refine ax_if_ne (pc' := 56) (tgt := 61) dX12_six_53 (by decide) rfl (fun hc53 => ?_) (fun hc53 => ?_)
      · have H := H.1 hc53
        refine ax_bipush (pc' := 63) (v := (27 : Int32)) dX12_six_61 (by decide) rfl ?_
        refine ax_iload (pc' := 65) dX12_six_63 rfl rfl ?_
        refine ax_imul (pc' := 66) dX12_six_65 rfl ?_
        refine ax_iload (pc' := 68) dX12_six_66 rfl rfl ?_
        refine ax_iadd (pc' := 69) dX12_six_68 rfl ?_
        exact ax_iret dX12_six_69 rfl rfl rfl ⟨_, _, rfl, rfl, H⟩
      · have H := H.2 hc53
        refine ax_iload (pc' := 58) dX12_six_56 rfl rfl ?_
        refine ax_goto (tgt := 69) dX12_six_58 (by decide) ?_
        exact ax_iret dX12_six_69 rfl rfl rfl ⟨_, _, rfl, rfl, H⟩
    · have H := H.2 hc33
      refine ax_iload (pc' := 38) dX12_six_36 rfl rfl ?_
      refine ax_goto (tgt := 49) dX12_six_38 (by decide) ?_
      refine ax_istore (pc' := 51) dX12_six_49 rfl rfl rfl ?_
      refine ax_iload (pc' := 53) dX12_six_51 rfl rfl ?_
      refine ax_if_ne (pc' := 56) (tgt := 61) dX12_six_53 (by decide) rfl (fun hc53 => ?_) (fun hc53 => ?_)
      · have H := H.1 hc53
        refine ax_bipush (pc' := 63) (v := (27 : Int32)) dX12_six_61 (by decide) rfl ?_
        refine ax_iload (pc' := 65) dX12_six_63 rfl rfl ?_
        refine ax_imul (pc' := 66) dX12_six_65 rfl ?_
        refine ax_iload (pc' := 68) dX12_six_66 rfl rfl ?_
        refine ax_iadd (pc' := 69) dX12_six_68 rfl ?_
        exact ax_iret dX12_six_69 rfl rfl rfl ⟨_, _, rfl, rfl, H⟩
      · have H := H.2 hc53
        refine ax_iload (pc' := 58) dX12_six_56 rfl rfl ?_
        refine ax_goto (tgt := 69) dX12_six_58 (by decide) ?_
        exact ax_iret dX12_six_69 rfl rfl rfl ⟨_, _, rfl, rfl, H⟩
  · have H := H.2 hc14
    refine ax_iload (pc' := 19) dX12_six_17 rfl rfl ?_
    refine ax_goto (tgt := 29) dX12_six_19 (by decide) ?_
    refine ax_istore (pc' := 31) dX12_six_29 rfl rfl rfl ?_
    refine ax_iload (pc' := 33) dX12_six_31 rfl rfl ?_
    refine ax_if_ne (pc' := 36) (tgt := 41) dX12_six_33 (by decide) rfl (fun hc33 => ?_) (fun hc33 => ?_)
    · have H := H.1 hc33
      refine ax_bipush (pc' := 43) (v := (27 : Int32)) dX12_six_41 (by decide) rfl ?_
      refine ax_iload (pc' := 45) dX12_six_43 rfl rfl ?_
      refine ax_imul (pc' := 46) dX12_six_45 rfl ?_
      refine ax_iload (pc' := 48) dX12_six_46 rfl rfl ?_
      refine ax_iadd (pc' := 49) dX12_six_48 rfl ?_
      refine ax_topi (fun y49 hy49 => ?_)
      have H := H y49 hy49
      refine ax_istore (pc' := 51) dX12_six_49 rfl rfl rfl ?_
      refine ax_iload (pc' := 53) dX12_six_51 rfl rfl ?_
      refine ax_if_ne (pc' := 56) (tgt := 61) dX12_six_53 (by decide) rfl (fun hc53 => ?_) (fun hc53 => ?_)
      · have H := H.1 hc53
        refine ax_bipush (pc' := 63) (v := (27 : Int32)) dX12_six_61 (by decide) rfl ?_
        refine ax_iload (pc' := 65) dX12_six_63 rfl rfl ?_
        refine ax_imul (pc' := 66) dX12_six_65 rfl ?_
        refine ax_iload (pc' := 68) dX12_six_66 rfl rfl ?_
        refine ax_iadd (pc' := 69) dX12_six_68 rfl ?_
        exact ax_iret dX12_six_69 rfl rfl rfl ⟨_, _, rfl, rfl, H⟩
      · have H := H.2 hc53
        refine ax_iload (pc' := 58) dX12_six_56 rfl rfl ?_
        refine ax_goto (tgt := 69) dX12_six_58 (by decide) ?_
        exact ax_iret dX12_six_69 rfl rfl rfl ⟨_, _, rfl, rfl, H⟩
    · have H := H.2 hc33
      refine ax_iload (pc' := 38) dX12_six_36 rfl rfl ?_
      refine ax_goto (tgt := 49) dX12_six_38 (by decide) ?_
      refine ax_istore (pc' := 51) dX12_six_49 rfl rfl rfl ?_
      refine ax_iload (pc' := 53) dX12_six_51 rfl rfl ?_
      refine ax_if_ne (pc' := 56) (tgt := 61) dX12_six_53 (by decide) rfl (fun hc53 => ?_) (fun hc53 => ?_)
      · have H := H.1 hc53
        refine ax_bipush (pc' := 63) (v := (27 : Int32)) dX12_six_61 (by decide) rfl ?_
        refine ax_iload (pc' := 65) dX12_six_63 rfl rfl ?_
        refine ax_imul (pc' := 66) dX12_six_65 rfl ?_
        refine ax_iload (pc' := 68) dX12_six_66 rfl rfl ?_
        refine ax_iadd (pc' := 69) dX12_six_68 rfl ?_
        exact ax_iret dX12_six_69 rfl rfl rfl ⟨_, _, rfl, rfl, H⟩
      · have H := H.2 hc53
        refine ax_iload (pc' := 58) dX12_six_56 rfl rfl ?_
        refine ax_goto (tgt := 69) dX12_six_58 (by decide) ?_
        exact ax_iret dX12_six_69 rfl rfl rfl ⟨_, _, rfl, rfl, H⟩
theorem o_X12_isWord {g : ac_G} {τ : Nat → Nat → Int64} (d : Nat) (p1 : Int32) (p2 : Int32) (p3 : Int32) (p4 : Int32) (p5 : Int32) (p6 : Int32) {Q : Int32 → ac_m → Prop} {s : ac_m} (H : w_X12_isWord p1 p2 p3 p4 p5 p6 Q s) : ac_M g i_X12_isWord (d + 3) 0 0 [.ref 69, .int p1, .int p2, .int p3, .int p4, .int p5, .int p6] (false, 586, SH, s, τ) (liI τ Q) := by
  refine ac_ofX (by decide +kernel) rfl rfl rfl ?_
  refine ax_aload_n (pc' := 1) dX12_isWord_0 rfl rfl ?_
  refine ax_getI (pc' := 4) dX12_isWord_1 fl_X12_120 sh_69 rfl rfl rfl ?_
  refine ax_if_ne (pc' := 7) (tgt := 30) dX12_isWord_4 (by decide) rfl (fun hc4 => ?_) (fun hc4 => ?_)
  · have H := H.1 hc4
    refine ax_iconst (pc' := 31) (v := (0 : Int32)) dX12_isWord_30 (by decide) rfl ?_
    exact ax_zret dX12_isWord_31 rfl rfl rfl rfl ⟨_, _, rfl, rfl, H⟩
  · have H := H.2 hc4
    refine ax_aload_n (pc' := 8) dX12_isWord_7 rfl rfl ?_
    refine ay_V0 (pc' := 11) (ce' := 0) (sl' := 0) (mc2 := 0) (ms2 := 0) (I2 := i_X12_wordHere) dX12_isWord_8 ml_X12_145 sh_69 (by decide) rfl rfl rfl rfl rfl rfl rfl rfl rfl (ac_M.imp (o_X12_wordHere _  H) ?_)
    rintro _ _ ⟨r8, s8, rfl, rfl, H⟩
    refine ax_iload_n (pc' := 12) dX12_isWord_11 rfl rfl ?_
    refine ax_iload_n (pc' := 13) dX12_isWord_12 rfl rfl ?_
    refine ax_iload_n (pc' := 14) dX12_isWord_13 rfl rfl ?_
    refine ax_iload (pc' := 16) dX12_isWord_14 rfl rfl ?_
    refine ax_iload (pc' := 18) dX12_isWord_16 rfl rfl ?_
    refine ax_iload (pc' := 20) dX12_isWord_18 rfl rfl ?_
    refine ay_S6 (pc' := 23) (ce' := 0) (sl' := 0) (mc2 := 0) (ms2 := 0) (I2 := i_X12_six) dX12_isWord_20 ml_X12_149 rfl rfl rfl rfl rfl rfl rfl rfl (ac_M.imp (o_X12_six _ p1 p2 p3 p4 p5 p6 H) ?_)
    rintro _ _ ⟨r20, s20, rfl, rfl, H⟩
    refine ax_icmp_ne (pc' := 26) (tgt := 30) dX12_isWord_23 (by decide) rfl (fun hc23 => ?_) (fun hc23 => ?_)
    · have H := H.1 hc23
      refine ax_iconst (pc' := 31) (v := (0 : Int32)) dX12_isWord_30 (by decide) rfl ?_
      exact ax_zret dX12_isWord_31 rfl rfl rfl rfl ⟨_, _, rfl, rfl, H⟩
    · have H := H.2 hc23
      refine ax_iconst (pc' := 27) (v := (1 : Int32)) dX12_isWord_26 (by decide) rfl ?_
      refine ax_goto (tgt := 31) dX12_isWord_27 (by decide) ?_
      exact ax_zret dX12_isWord_31 rfl rfl rfl rfl ⟨_, _, rfl, rfl, H⟩
theorem ol_X12_skipWord_0 {g : ac_G} {τ : Nat → Nat → Int64} (d : Nat)  {Q : ac_m → Prop}     {s : ac_m} (H : l_X12_skipWord_0  Q     s) : ac_X g i_X12_skipWord (d + 1) 0 0 (liV τ Q) 0 0 0 [some (.ref 69)] [] (false, 586, SH, s, τ) := by
  refine H (fun  s => ac_X g i_X12_skipWord (d + 1) 0 0 (liV τ Q) 0 0 0 [some (.ref 69)] [] (false, 586, SH, s, τ)) ?_
  intro  s H
  refine ax_aload_n (pc' := 1) dX12_skipWord_0 rfl rfl ?_
  refine ax_aload_n (pc' := 2) dX12_skipWord_1 rfl rfl ?_
  refine ax_getI (pc' := 5) dX12_skipWord_2 fl_X12_113 sh_69 rfl rfl rfl ?_
  refine ay_V1 (pc' := 8) (ce' := 0) (sl' := 0) (mc2 := 0) (ms2 := 0) (I2 := i_X12_byteAt) dX12_skipWord_5 ml_X12_116 sh_69 (by decide) rfl rfl rfl rfl rfl rfl rfl rfl rfl (ac_M.imp (o_X12_byteAt _ (s 69 4) H) ?_)
  rintro _ _ ⟨r5, s5, rfl, rfl, H⟩
  refine ay_S1 (pc' := 11) (ce' := 0) (sl' := 0) (mc2 := 0) (ms2 := 0) (I2 := i_X12_isSmall) dX12_skipWord_8 ml_X12_142 rfl rfl rfl rfl rfl rfl rfl rfl (ac_M.imp (o_X12_isSmall _ r5 H) ?_)
  rintro _ _ ⟨r8, s8, rfl, rfl, H⟩
  refine ax_if_eq (pc' := 14) (tgt := 27) dX12_skipWord_11 (by decide) rfl (fun hc11 => ?_) (fun hc11 => ?_)
  · have H := H.1 hc11
    exact ax_vret dX12_skipWord_27 rfl rfl rfl ⟨_, rfl, rfl, H⟩
  · have H := H.2 hc11
    refine ax_aload_n (pc' := 15) dX12_skipWord_14 rfl rfl ?_
    refine ax_dup (pc' := 16) dX12_skipWord_15 rfl rfl ?_
    refine ax_getI (pc' := 19) dX12_skipWord_16 fl_X12_113 sh_69 rfl rfl rfl ?_
    refine ax_iconst (pc' := 20) (v := (1 : Int32)) dX12_skipWord_19 (by decide) rfl ?_
    refine ax_iadd (pc' := 21) dX12_skipWord_20 rfl ?_
    refine ax_putI (pc' := 24) dX12_skipWord_21 fp_X12_113 sh_69 rfl rfl rfl ?_
    refine ax_goto (tgt := 0) dX12_skipWord_24 (by decide) ?_
    exact H
theorem o_X12_skipWord {g : ac_G} {τ : Nat → Nat → Int64} (d : Nat)  {Q : ac_m → Prop} {s : ac_m} (H : w_X12_skipWord  Q s) : ac_M g i_X12_skipWord (d + 1) 0 0 [.ref 69] (false, 586, SH, s, τ) (liV τ Q) := by
  refine ac_ofX (by decide +kernel) rfl rfl rfl ?_
  refine ol_X12_skipWord_0 d       H
theorem o_X12_takes {g : ac_G} {τ : Nat → Nat → Int64} (d : Nat) (p1 : Int32) (p2 : Int32) (p3 : Int32) (p4 : Int32) (p5 : Int32) (p6 : Int32) {Q : Int32 → ac_m → Prop} {s : ac_m} (H : w_X12_takes p1 p2 p3 p4 p5 p6 Q s) : ac_M g i_X12_takes (d + 4) 0 0 [.ref 69, .int p1, .int p2, .int p3, .int p4, .int p5, .int p6] (false, 586, SH, s, τ) (liI τ Q) := by
  refine ac_ofX (by decide +kernel) rfl rfl rfl ?_
  refine ax_aload_n (pc' := 1) dX12_takes_0 rfl rfl ?_
  refine ax_iload_n (pc' := 2) dX12_takes_1 rfl rfl ?_
  refine ax_iload_n (pc' := 3) dX12_takes_2 rfl rfl ?_
  refine ax_iload_n (pc' := 4) dX12_takes_3 rfl rfl ?_
  refine ax_iload (pc' := 6) dX12_takes_4 rfl rfl ?_
  refine ax_iload (pc' := 8) dX12_takes_6 rfl rfl ?_
  refine ax_iload (pc' := 10) dX12_takes_8 rfl rfl ?_
  refine ay_V6 (pc' := 13) (ce' := 0) (sl' := 0) (mc2 := 0) (ms2 := 0) (I2 := i_X12_isWord) dX12_takes_10 ml_X12_153 sh_69 (by decide) rfl rfl rfl rfl rfl rfl rfl rfl rfl (ac_M.imp (o_X12_isWord _ p1 p2 p3 p4 p5 p6 H) ?_)
  rintro _ _ ⟨r10, s10, rfl, rfl, H⟩
  refine ax_istore (pc' := 15) dX12_takes_13 rfl rfl rfl ?_
  refine ax_iload (pc' := 17) dX12_takes_15 rfl rfl ?_
  refine ax_if_eq (pc' := 20) (tgt := 24) dX12_takes_17 (by decide) rfl (fun hc17 => ?_) (fun hc17 => ?_)
  · have H := H.1 hc17
    refine ax_iload (pc' := 26) dX12_takes_24 rfl rfl ?_
    obtain ⟨hb, H⟩ := H
    exact ax_zret dX12_takes_26 rfl hb rfl rfl ⟨_, _, rfl, rfl, H⟩
  · have H := H.2 hc17
    refine ax_aload_n (pc' := 21) dX12_takes_20 rfl rfl ?_
    refine ay_V0 (pc' := 24) (ce' := 0) (sl' := 0) (mc2 := 0) (ms2 := 0) (I2 := i_X12_skipWord) dX12_takes_21 ml_X12_157 sh_69 (by decide) rfl rfl rfl rfl rfl rfl rfl rfl rfl (ac_M.imp (o_X12_skipWord _  H) ?_)
    rintro _ _ ⟨s21, rfl, rfl, H⟩
    refine ax_iload (pc' := 26) dX12_takes_24 rfl rfl ?_
    obtain ⟨hb, H⟩ := H
    exact ax_zret dX12_takes_26 rfl hb rfl rfl ⟨_, _, rfl, rfl, H⟩
theorem o_X12_sign {g : ac_G} {τ : Nat → Nat → Int64} (d : Nat) (p1 : Int32) {Q : ac_m → Prop} {s : ac_m} (H : w_X12_sign p1 Q s) : ac_M g i_X12_sign (d + 2) 0 0 [.ref 69, .int p1] (false, 586, SH, s, τ) (liV τ Q) := by
  refine ac_ofX (by decide +kernel) rfl rfl rfl ?_
  refine ax_aload_n (pc' := 1) dX12_sign_0 rfl rfl ?_
  refine ax_getI (pc' := 4) dX12_sign_1 fl_X12_120 sh_69 rfl rfl rfl ?_
  refine ax_if_eq (pc' := 7) (tgt := 8) dX12_sign_4 (by decide) rfl (fun hc4 => ?_) (fun hc4 => ?_)
  · have H := H.1 hc4
    refine ax_aload_n (pc' := 9) dX12_sign_8 rfl rfl ?_
    refine ay_V0 (pc' := 12) (ce' := 0) (sl' := 0) (mc2 := 0) (ms2 := 0) (I2 := i_X12_blanks) dX12_sign_9 ml_X12_126 sh_69 (by decide) rfl rfl rfl rfl rfl rfl rfl rfl rfl (ac_M.imp (o_X12_blanks _  H) ?_)
    rintro _ _ ⟨s9, rfl, rfl, H⟩
    refine ax_aload_n (pc' := 13) dX12_sign_12 rfl rfl ?_
    refine ax_aload_n (pc' := 14) dX12_sign_13 rfl rfl ?_
    refine ax_getI (pc' := 17) dX12_sign_14 fl_X12_113 sh_69 rfl rfl rfl ?_
    refine ay_V1 (pc' := 20) (ce' := 0) (sl' := 0) (mc2 := 0) (ms2 := 0) (I2 := i_X12_byteAt) dX12_sign_17 ml_X12_116 sh_69 (by decide) rfl rfl rfl rfl rfl rfl rfl rfl rfl (ac_M.imp (o_X12_byteAt _ (s9 69 4) H) ?_)
    rintro _ _ ⟨r17, s17, rfl, rfl, H⟩
    refine ax_iload_n (pc' := 21) dX12_sign_20 rfl rfl ?_
    refine ax_icmp_ne (pc' := 24) (tgt := 37) dX12_sign_21 (by decide) rfl (fun hc21 => ?_) (fun hc21 => ?_)
    · have H := H.1 hc21
      refine ax_aload_n (pc' := 38) dX12_sign_37 rfl rfl ?_
      refine ax_iconst (pc' := 39) (v := (1 : Int32)) dX12_sign_38 (by decide) rfl ?_
      refine ax_aload_n (pc' := 40) dX12_sign_39 rfl rfl ?_
      refine ax_getI (pc' := 43) dX12_sign_40 fl_X12_113 sh_69 rfl rfl rfl ?_
      refine ay_V2 (pc' := 46) (ce' := 0) (sl' := 0) (mc2 := 0) (ms2 := 0) (I2 := i_X12_wrong) dX12_sign_43 ml_X12_133 sh_69 (by decide) rfl rfl rfl rfl rfl rfl rfl rfl rfl (ac_M.imp (o_X12_wrong _ (1 : Int32) (s17 69 4) H) ?_)
      rintro _ _ ⟨s43, rfl, rfl, H⟩
      exact ax_vret dX12_sign_46 rfl rfl rfl ⟨_, rfl, rfl, H⟩
    · have H := H.2 hc21
      refine ax_aload_n (pc' := 25) dX12_sign_24 rfl rfl ?_
      refine ax_dup (pc' := 26) dX12_sign_25 rfl rfl ?_
      refine ax_getI (pc' := 29) dX12_sign_26 fl_X12_113 sh_69 rfl rfl rfl ?_
      refine ax_iconst (pc' := 30) (v := (1 : Int32)) dX12_sign_29 (by decide) rfl ?_
      refine ax_iadd (pc' := 31) dX12_sign_30 rfl ?_
      refine ax_putI (pc' := 34) dX12_sign_31 fp_X12_113 sh_69 rfl rfl rfl ?_
      refine ax_goto (tgt := 46) dX12_sign_34 (by decide) ?_
      exact ax_vret dX12_sign_46 rfl rfl rfl ⟨_, rfl, rfl, H⟩
  · have H := H.2 hc4
    exact ax_vret dX12_sign_7 rfl rfl rfl ⟨_, rfl, rfl, H⟩
theorem o_X12_takesSign {g : ac_G} {τ : Nat → Nat → Int64} (d : Nat) (p1 : Int32) {Q : Int32 → ac_m → Prop} {s : ac_m} (H : w_X12_takesSign p1 Q s) : ac_M g i_X12_takesSign (d + 2) 0 0 [.ref 69, .int p1] (false, 586, SH, s, τ) (liI τ Q) := by
  refine ac_ofX (by decide +kernel) rfl rfl rfl ?_
  refine ax_aload_n (pc' := 1) dX12_takesSign_0 rfl rfl ?_
  refine ax_getI (pc' := 4) dX12_takesSign_1 fl_X12_120 sh_69 rfl rfl rfl ?_
  refine ax_if_eq (pc' := 7) (tgt := 9) dX12_takesSign_4 (by decide) rfl (fun hc4 => ?_) (fun hc4 => ?_)
  · have H := H.1 hc4
    refine ax_aload_n (pc' := 10) dX12_takesSign_9 rfl rfl ?_
    refine ay_V0 (pc' := 13) (ce' := 0) (sl' := 0) (mc2 := 0) (ms2 := 0) (I2 := i_X12_blanks) dX12_takesSign_10 ml_X12_126 sh_69 (by decide) rfl rfl rfl rfl rfl rfl rfl rfl rfl (ac_M.imp (o_X12_blanks _  H) ?_)
    rintro _ _ ⟨s10, rfl, rfl, H⟩
    refine ax_aload_n (pc' := 14) dX12_takesSign_13 rfl rfl ?_
    refine ax_aload_n (pc' := 15) dX12_takesSign_14 rfl rfl ?_
    refine ax_getI (pc' := 18) dX12_takesSign_15 fl_X12_113 sh_69 rfl rfl rfl ?_
    refine ay_V1 (pc' := 21) (ce' := 0) (sl' := 0) (mc2 := 0) (ms2 := 0) (I2 := i_X12_byteAt) dX12_takesSign_18 ml_X12_116 sh_69 (by decide) rfl rfl rfl rfl rfl rfl rfl rfl rfl (ac_M.imp (o_X12_byteAt _ (s10 69 4) H) ?_)
    rintro _ _ ⟨r18, s18, rfl, rfl, H⟩
    refine ax_iload_n (pc' := 22) dX12_takesSign_21 rfl rfl ?_
    refine ax_icmp_ne (pc' := 25) (tgt := 29) dX12_takesSign_22 (by decide) rfl (fun hc22 => ?_) (fun hc22 => ?_)
    · have H := H.1 hc22
      refine ax_iconst (pc' := 30) (v := (0 : Int32)) dX12_takesSign_29 (by decide) rfl ?_
      refine ax_istore_n (pc' := 31) dX12_takesSign_30 rfl rfl rfl ?_
      refine ax_iload_n (pc' := 32) dX12_takesSign_31 rfl rfl ?_
      refine ax_if_eq (pc' := 35) (tgt := 45) dX12_takesSign_32 (by decide) rfl (fun hc32 => ?_) (fun hc32 => ?_)
      · have H := H.1 hc32
        refine ax_iload_n (pc' := 46) dX12_takesSign_45 rfl rfl ?_
        exact ax_zret dX12_takesSign_46 rfl rfl rfl rfl ⟨_, _, rfl, rfl, H⟩
      · have H := H.2 hc32
        refine ax_aload_n (pc' := 36) dX12_takesSign_35 rfl rfl ?_
        refine ax_dup (pc' := 37) dX12_takesSign_36 rfl rfl ?_
        refine ax_getI (pc' := 40) dX12_takesSign_37 fl_X12_113 sh_69 rfl rfl rfl ?_
        refine ax_iconst (pc' := 41) (v := (1 : Int32)) dX12_takesSign_40 (by decide) rfl ?_
        refine ax_iadd (pc' := 42) dX12_takesSign_41 rfl ?_
        refine ax_putI (pc' := 45) dX12_takesSign_42 fp_X12_113 sh_69 rfl rfl rfl ?_
        refine ax_iload_n (pc' := 46) dX12_takesSign_45 rfl rfl ?_
        exact ax_zret dX12_takesSign_46 rfl rfl rfl rfl ⟨_, _, rfl, rfl, H⟩
    · have H := H.2 hc22
      refine ax_iconst (pc' := 26) (v := (1 : Int32)) dX12_takesSign_25 (by decide) rfl ?_
      refine ax_goto (tgt := 30) dX12_takesSign_26 (by decide) ?_
      refine ax_istore_n (pc' := 31) dX12_takesSign_30 rfl rfl rfl ?_
      refine ax_iload_n (pc' := 32) dX12_takesSign_31 rfl rfl ?_
      refine ax_if_eq (pc' := 35) (tgt := 45) dX12_takesSign_32 (by decide) rfl (fun hc32 => ?_) (fun hc32 => ?_)
      · have H := H.1 hc32
        refine ax_iload_n (pc' := 46) dX12_takesSign_45 rfl rfl ?_
        exact ax_zret dX12_takesSign_46 rfl rfl rfl rfl ⟨_, _, rfl, rfl, H⟩
      · have H := H.2 hc32
        refine ax_aload_n (pc' := 36) dX12_takesSign_35 rfl rfl ?_
        refine ax_dup (pc' := 37) dX12_takesSign_36 rfl rfl ?_
        refine ax_getI (pc' := 40) dX12_takesSign_37 fl_X12_113 sh_69 rfl rfl rfl ?_
        refine ax_iconst (pc' := 41) (v := (1 : Int32)) dX12_takesSign_40 (by decide) rfl ?_
        refine ax_iadd (pc' := 42) dX12_takesSign_41 rfl ?_
        refine ax_putI (pc' := 45) dX12_takesSign_42 fp_X12_113 sh_69 rfl rfl rfl ?_
        refine ax_iload_n (pc' := 46) dX12_takesSign_45 rfl rfl ?_
        exact ax_zret dX12_takesSign_46 rfl rfl rfl rfl ⟨_, _, rfl, rfl, H⟩
  · have H := H.2 hc4
    refine ax_iconst (pc' := 8) (v := (0 : Int32)) dX12_takesSign_7 (by decide) rfl ?_
    exact ax_zret dX12_takesSign_8 rfl rfl rfl rfl ⟨_, _, rfl, rfl, H⟩
theorem o_X12_starts {g : ac_G} {τ : Nat → Nat → Int64} (d : Nat) (p1 : Int32) {Q : ac_m → Prop} {s : ac_m} (H : w_X12_starts p1 Q s) : ac_M g i_X12_starts (d + 2) 0 0 [.ref 69, .int p1] (false, 586, SH, s, τ) (liV τ Q) := by
  refine ac_ofX (by decide +kernel) rfl rfl rfl ?_
  refine ax_aload_n (pc' := 1) dX12_starts_0 rfl rfl ?_
  refine ax_iconst (pc' := 2) (v := (0 : Int32)) dX12_starts_1 (by decide) rfl ?_
  refine ax_putI (pc' := 5) dX12_starts_2 fp_X12_107 sh_69 rfl rfl rfl ?_
  refine ax_aload_n (pc' := 6) dX12_starts_5 rfl rfl ?_
  refine ax_iload_n (pc' := 7) dX12_starts_6 rfl rfl ?_
  refine ax_putI (pc' := 10) dX12_starts_7 fp_X12_110 sh_69 rfl rfl rfl ?_
  refine ax_aload_n (pc' := 11) dX12_starts_10 rfl rfl ?_
  refine ax_iconst (pc' := 12) (v := (0 : Int32)) dX12_starts_11 (by decide) rfl ?_
  refine ax_putI (pc' := 15) dX12_starts_12 fp_X12_113 sh_69 rfl rfl rfl ?_
  refine ax_aload_n (pc' := 16) dX12_starts_15 rfl rfl ?_
  refine ax_iconst (pc' := 17) (v := (0 : Int32)) dX12_starts_16 (by decide) rfl ?_
  refine ax_putI (pc' := 20) dX12_starts_17 fp_X12_120 sh_69 rfl rfl rfl ?_
  refine ax_aload_n (pc' := 21) dX12_starts_20 rfl rfl ?_
  refine ax_iconst (pc' := 22) (v := (-1 : Int32)) dX12_starts_21 (by decide) rfl ?_
  refine ax_putI (pc' := 25) dX12_starts_22 fp_X12_123 sh_69 rfl rfl rfl ?_
  refine ax_aload_n (pc' := 26) dX12_starts_25 rfl rfl ?_
  refine ax_iconst (pc' := 27) (v := (0 : Int32)) dX12_starts_26 (by decide) rfl ?_
  refine ax_putI (pc' := 30) dX12_starts_27 fp_X12_160 sh_69 rfl rfl rfl ?_
  refine ax_aload_n (pc' := 31) dX12_starts_30 rfl rfl ?_
  refine ax_iconst (pc' := 32) (v := (0 : Int32)) dX12_starts_31 (by decide) rfl ?_
  refine ax_putI (pc' := 35) dX12_starts_32 fp_X12_163 sh_69 rfl rfl rfl ?_
  refine ax_aload_n (pc' := 36) dX12_starts_35 rfl rfl ?_
  refine ay_V0 (pc' := 39) (ce' := 0) (sl' := 0) (mc2 := 0) (ms2 := 0) (I2 := i_X12_blanks) dX12_starts_36 ml_X12_126 sh_69 (by decide) rfl rfl rfl rfl rfl rfl rfl rfl rfl (ac_M.imp (o_X12_blanks _  H) ?_)
  rintro _ _ ⟨s36, rfl, rfl, H⟩
  exact ax_vret dX12_starts_39 rfl rfl rfl ⟨_, rfl, rfl, H⟩
theorem o_X12_ends {g : ac_G} {τ : Nat → Nat → Int64} (d : Nat)  {Q : Int32 → ac_m → Prop} {s : ac_m} (H : w_X12_ends  Q s) : ac_M g i_X12_ends d 0 0 [.ref 69] (false, 586, SH, s, τ) (liI τ Q) := by
  refine ac_ofX (by decide +kernel) rfl rfl rfl ?_
  refine ax_aload_n (pc' := 1) dX12_ends_0 rfl rfl ?_
  refine ax_aload_n (pc' := 2) dX12_ends_1 rfl rfl ?_
  refine ax_getI (pc' := 5) dX12_ends_2 fl_X12_123 sh_69 rfl rfl rfl ?_
  refine ax_putI (pc' := 8) dX12_ends_5 fp_X12_9 sh_69 rfl rfl rfl ?_
  refine ax_aload_n (pc' := 9) dX12_ends_8 rfl rfl ?_
  refine ax_getI (pc' := 12) dX12_ends_9 fl_X12_120 sh_69 rfl rfl rfl ?_
  refine ax_bipush (pc' := 14) (v := (10 : Int32)) dX12_ends_12 (by decide) rfl ?_
  refine ax_isub (pc' := 15) dX12_ends_14 rfl ?_
  exact ax_iret dX12_ends_15 rfl rfl rfl ⟨_, _, rfl, rfl, H⟩
theorem o_X12_kindHere {g : ac_G} {τ : Nat → Nat → Int64} (d : Nat)  {Q : Int32 → ac_m → Prop} {s : ac_m} (H : w_X12_kindHere  Q s) : ac_M g i_X12_kindHere (d + 4) 0 0 [.ref 69] (false, 586, SH, s, τ) (liI τ Q) := by
  refine ac_ofX (by decide +kernel) rfl rfl rfl ?_
  refine ax_aload_n (pc' := 1) dX12_kindHere_0 rfl rfl ?_
  refine ax_bipush (pc' := 3) (v := (6 : Int32)) dX12_kindHere_1 (by decide) rfl ?_
  refine ax_bipush (pc' := 5) (v := (15 : Int32)) dX12_kindHere_3 (by decide) rfl ?_
  refine ax_bipush (pc' := 7) (v := (12 : Int32)) dX12_kindHere_5 (by decide) rfl ?_
  refine ax_bipush (pc' := 9) (v := (11 : Int32)) dX12_kindHere_7 (by decide) rfl ?_
  refine ax_iconst (pc' := 10) (v := (0 : Int32)) dX12_kindHere_9 (by decide) rfl ?_
  refine ax_iconst (pc' := 11) (v := (0 : Int32)) dX12_kindHere_10 (by decide) rfl ?_
  refine ay_V6 (pc' := 14) (ce' := 0) (sl' := 0) (mc2 := 0) (ms2 := 0) (I2 := i_X12_isWord) dX12_kindHere_11 ml_X12_153 sh_69 (by decide) rfl rfl rfl rfl rfl rfl rfl rfl rfl (ac_M.imp (o_X12_isWord _ (6 : Int32) (15 : Int32) (12 : Int32) (11 : Int32) (0 : Int32) (0 : Int32) H) ?_)
  rintro _ _ ⟨r11, s11, rfl, rfl, H⟩
  refine ax_if_eq (pc' := 17) (tgt := 19) dX12_kindHere_14 (by decide) rfl (fun hc14 => ?_) (fun hc14 => ?_)
  · have H := H.1 hc14
    refine ax_aload_n (pc' := 20) dX12_kindHere_19 rfl rfl ?_
    refine ax_iconst (pc' := 21) (v := (2 : Int32)) dX12_kindHere_20 (by decide) rfl ?_
    refine ax_iconst (pc' := 22) (v := (5 : Int32)) dX12_kindHere_21 (by decide) rfl ?_
    refine ax_iconst (pc' := 23) (v := (1 : Int32)) dX12_kindHere_22 (by decide) rfl ?_
    refine ax_bipush (pc' := 25) (v := (19 : Int32)) dX12_kindHere_23 (by decide) rfl ?_
    refine ax_bipush (pc' := 27) (v := (20 : Int32)) dX12_kindHere_25 (by decide) rfl ?_
    refine ax_iconst (pc' := 28) (v := (0 : Int32)) dX12_kindHere_27 (by decide) rfl ?_
    refine ay_V6 (pc' := 31) (ce' := 0) (sl' := 0) (mc2 := 0) (ms2 := 0) (I2 := i_X12_isWord) dX12_kindHere_28 ml_X12_153 sh_69 (by decide) rfl rfl rfl rfl rfl rfl rfl rfl rfl (ac_M.imp (o_X12_isWord _ (2 : Int32) (5 : Int32) (1 : Int32) (19 : Int32) (20 : Int32) (0 : Int32) H) ?_)
    rintro _ _ ⟨r28, s28, rfl, rfl, H⟩
    refine ax_if_eq (pc' := 34) (tgt := 36) dX12_kindHere_31 (by decide) rfl (fun hc31 => ?_) (fun hc31 => ?_)
    · have H := H.1 hc31
      refine ax_aload_n (pc' := 37) dX12_kindHere_36 rfl rfl ?_
      refine ax_bipush (pc' := 39) (v := (6 : Int32)) dX12_kindHere_37 (by decide) rfl ?_
      refine ax_iconst (pc' := 40) (v := (1 : Int32)) dX12_kindHere_39 (by decide) rfl ?_
      refine ax_bipush (pc' := 42) (v := (9 : Int32)) dX12_kindHere_40 (by decide) rfl ?_
      refine ax_bipush (pc' := 44) (v := (18 : Int32)) dX12_kindHere_42 (by decide) rfl ?_
      refine ax_iconst (pc' := 45) (v := (0 : Int32)) dX12_kindHere_44 (by decide) rfl ?_
      refine ax_iconst (pc' := 46) (v := (0 : Int32)) dX12_kindHere_45 (by decide) rfl ?_
      refine ay_V6 (pc' := 49) (ce' := 0) (sl' := 0) (mc2 := 0) (ms2 := 0) (I2 := i_X12_isWord) dX12_kindHere_46 ml_X12_153 sh_69 (by decide) rfl rfl rfl rfl rfl rfl rfl rfl rfl (ac_M.imp (o_X12_isWord _ (6 : Int32) (1 : Int32) (9 : Int32) (18 : Int32) (0 : Int32) (0 : Int32) H) ?_)
      rintro _ _ ⟨r46, s46, rfl, rfl, H⟩
      refine ax_if_eq (pc' := 52) (tgt := 56) dX12_kindHere_49 (by decide) rfl (fun hc49 => ?_) (fun hc49 => ?_)
      · have H := H.1 hc49
        refine ax_iconst (pc' := 57) (v := (-1 : Int32)) dX12_kindHere_56 (by decide) rfl ?_
        exact ax_iret dX12_kindHere_57 rfl rfl rfl ⟨_, _, rfl, rfl, H⟩
      · have H := H.2 hc49
        refine ax_iconst (pc' := 53) (v := (2 : Int32)) dX12_kindHere_52 (by decide) rfl ?_
        refine ax_goto (tgt := 57) dX12_kindHere_53 (by decide) ?_
        exact ax_iret dX12_kindHere_57 rfl rfl rfl ⟨_, _, rfl, rfl, H⟩
    · have H := H.2 hc31
      refine ax_iconst (pc' := 35) (v := (1 : Int32)) dX12_kindHere_34 (by decide) rfl ?_
      exact ax_iret dX12_kindHere_35 rfl rfl rfl ⟨_, _, rfl, rfl, H⟩
  · have H := H.2 hc14
    refine ax_iconst (pc' := 18) (v := (0 : Int32)) dX12_kindHere_17 (by decide) rfl ?_
    exact ax_iret dX12_kindHere_18 rfl rfl rfl ⟨_, _, rfl, rfl, H⟩
theorem o_X12_mostOf {g : ac_G} {τ : Nat → Nat → Int64} (d : Nat) (p1 : Int32) {Q : Int32 → ac_m → Prop} {s : ac_m} (H : w_X12_mostOf p1 Q s) : ac_M g i_X12_mostOf d 0 0 [.int p1] (false, 586, SH, s, τ) (liI τ Q) := by
  refine ac_ofX (by decide +kernel) rfl rfl rfl ?_
  refine ax_iload_n (pc' := 1) dX12_mostOf_0 rfl rfl ?_
  refine ax_if_ne (pc' := 4) (tgt := 9) dX12_mostOf_1 (by decide) rfl (fun hc1 => ?_) (fun hc1 => ?_)
  · have H := H.1 hc1
    refine ax_iload_n (pc' := 10) dX12_mostOf_9 rfl rfl ?_
    refine ax_iconst (pc' := 11) (v := (1 : Int32)) dX12_mostOf_10 (by decide) rfl ?_
    refine ax_icmp_ne (pc' := 14) (tgt := 19) dX12_mostOf_11 (by decide) rfl (fun hc11 => ?_) (fun hc11 => ?_)
    · have H := H.1 hc11
      refine ax_bipush (pc' := 21) (v := (10 : Int32)) dX12_mostOf_19 (by decide) rfl ?_
      exact ax_iret dX12_mostOf_21 rfl rfl rfl ⟨_, _, rfl, rfl, H⟩
    · have H := H.2 hc11
      refine ax_bipush (pc' := 16) (v := (12 : Int32)) dX12_mostOf_14 (by decide) rfl ?_
      refine ax_goto (tgt := 21) dX12_mostOf_16 (by decide) ?_
      exact ax_iret dX12_mostOf_21 rfl rfl rfl ⟨_, _, rfl, rfl, H⟩
  · have H := H.2 hc1
    refine ax_bipush (pc' := 6) (v := (6 : Int32)) dX12_mostOf_4 (by decide) rfl ?_
    refine ax_goto (tgt := 21) dX12_mostOf_6 (by decide) ?_
    exact ax_iret dX12_mostOf_21 rfl rfl rfl ⟨_, _, rfl, rfl, H⟩
theorem o_X12_another {g : ac_G} {τ : Nat → Nat → Int64} (d : Nat) (p1 : Int32) (p2 : Int32) {Q : Int32 → ac_m → Prop} {s : ac_m} (H : w_X12_another p1 p2 Q s) : ac_M g i_X12_another (d + 3) 0 0 [.ref 69, .int p1, .int p2] (false, 586, SH, s, τ) (liI τ Q) := by
  refine ac_ofX (by decide +kernel) rfl rfl rfl ?_
  refine ax_aload_n (pc' := 1) dX12_another_0 rfl rfl ?_
  refine ay_V0 (pc' := 4) (ce' := 0) (sl' := 0) (mc2 := 0) (ms2 := 0) (I2 := i_X12_blanks) dX12_another_1 ml_X12_126 sh_69 (by decide) rfl rfl rfl rfl rfl rfl rfl rfl rfl (ac_M.imp (o_X12_blanks _  H) ?_)
  rintro _ _ ⟨s1, rfl, rfl, H⟩
  refine ax_aload_n (pc' := 5) dX12_another_4 rfl rfl ?_
  refine ax_getI (pc' := 8) dX12_another_5 fl_X12_113 sh_69 rfl rfl rfl ?_
  refine ax_istore_n (pc' := 9) dX12_another_8 rfl rfl rfl ?_
  refine ax_aload_n (pc' := 10) dX12_another_9 rfl rfl ?_
  refine ax_iconst (pc' := 11) (v := (0 : Int32)) dX12_another_10 (by decide) rfl ?_
  refine ax_iload_n (pc' := 12) dX12_another_11 rfl rfl ?_
  refine ax_iconst (pc' := 13) (v := (1 : Int32)) dX12_another_12 (by decide) rfl ?_
  refine ax_isub (pc' := 14) dX12_another_13 rfl ?_
  refine ay_V2 (pc' := 17) (ce' := 0) (sl' := 0) (mc2 := 0) (ms2 := 0) (I2 := i_X12_number) dX12_another_14 ml_X12_166 sh_69 (by decide) rfl rfl rfl rfl rfl rfl rfl rfl rfl (ac_M.imp (o_X12_number _ (0 : Int32) (p2 - (1 : Int32)) H) ?_)
  rintro _ _ ⟨r14, s14, rfl, rfl, H⟩
  refine ax_istore (pc' := 19) dX12_another_17 rfl rfl rfl ?_
  refine ax_aload_n (pc' := 20) dX12_another_19 rfl rfl ?_
  refine ax_getI (pc' := 23) dX12_another_20 fl_X12_120 sh_69 rfl rfl rfl ?_
  refine ax_if_ne (pc' := 26) (tgt := 38) dX12_another_23 (by decide) rfl (fun hc23 => ?_) (fun hc23 => ?_)
  · have H := H.1 hc23
    refine ax_iload (pc' := 40) dX12_another_38 rfl rfl ?_
    exact ax_iret dX12_another_40 rfl rfl rfl ⟨_, _, rfl, rfl, H⟩
  · have H := H.2 hc23
    refine ax_iload_n (pc' := 27) dX12_another_26 rfl rfl ?_
    refine ax_iload (pc' := 29) dX12_another_27 rfl rfl ?_
    refine ax_icmp_ne (pc' := 32) (tgt := 38) dX12_another_29 (by decide) rfl (fun hc29 => ?_) (fun hc29 => ?_)
    · have H := H.1 hc29
      refine ax_iload (pc' := 40) dX12_another_38 rfl rfl ?_
      exact ax_iret dX12_another_40 rfl rfl rfl ⟨_, _, rfl, rfl, H⟩
    · have H := H.2 hc29
      refine ax_aload_n (pc' := 33) dX12_another_32 rfl rfl ?_
      refine ax_iconst (pc' := 34) (v := (2 : Int32)) dX12_another_33 (by decide) rfl ?_
      refine ax_iload_n (pc' := 35) dX12_another_34 rfl rfl ?_
      refine ay_V2 (pc' := 38) (ce' := 0) (sl' := 0) (mc2 := 0) (ms2 := 0) (I2 := i_X12_wrong) dX12_another_35 ml_X12_133 sh_69 (by decide) rfl rfl rfl rfl rfl rfl rfl rfl rfl (ac_M.imp (o_X12_wrong _ (2 : Int32) (s1 69 4) H) ?_)
      rintro _ _ ⟨s35, rfl, rfl, H⟩
      refine ax_iload (pc' := 40) dX12_another_38 rfl rfl ?_
      exact ax_iret dX12_another_40 rfl rfl rfl ⟨_, _, rfl, rfl, H⟩
theorem ac_look_X12_clause_83 (x : Int32) (h0 : ¬ x = (0 : Int32)) (h1 : ¬ x = (1 : Int32)) : Op.lookupswitch.offset (#[(0, 25), (1, 58)] : Array (Int × Int)).toList 137 x.toInt = (137) := by
  have q0 : x.toInt ≠ 0 := ac_ne h0
  have q1 : x.toInt ≠ 1 := ac_ne h1
  simp [Op.lookupswitch.offset, q0, q0.symm, q1, q1.symm]
theorem o_X12_clause {g : ac_G} {τ : Nat → Nat → Int64} (d : Nat)  {Q : ac_m → Prop} {s : ac_m} (H : w_X12_clause  Q s) : ac_M g i_X12_clause (d + 5) 0 0 [.ref 69] (false, 586, SH, s, τ) (liV τ Q) := by
  refine ac_ofX (by decide +kernel) rfl rfl rfl ?_
  refine ax_aload_n (pc' := 1) dX12_clause_0 rfl rfl ?_
  refine ay_V0 (pc' := 4) (ce' := 0) (sl' := 0) (mc2 := 0) (ms2 := 0) (I2 := i_X12_kindHere) dX12_clause_1 ml_X12_170 sh_69 (by decide) rfl rfl rfl rfl rfl rfl rfl rfl rfl (ac_M.imp (o_X12_kindHere _  H) ?_)
  rintro _ _ ⟨r1, s1, rfl, rfl, H⟩
  refine ax_istore_n (pc' := 5) dX12_clause_4 rfl rfl rfl ?_
  refine ax_iload_n (pc' := 6) dX12_clause_5 rfl rfl ?_
  refine ax_iconst (pc' := 7) (v := (-1 : Int32)) dX12_clause_6 (by decide) rfl ?_
  refine ax_icmp_ne (pc' := 10) (tgt := 22) dX12_clause_7 (by decide) rfl (fun hc7 => ?_) (fun hc7 => ?_)
  · have H := H.1 hc7
    refine ax_aload_n (pc' := 23) dX12_clause_22 rfl rfl ?_
    refine ax_getI (pc' := 26) dX12_clause_23 fl_X12_160 sh_69 rfl rfl rfl ?_
    refine ax_bipush (pc' := 28) (v := (60 : Int32)) dX12_clause_26 (by decide) rfl ?_
    refine ax_icmp_eq (pc' := 31) (tgt := 44) dX12_clause_28 (by decide) rfl (fun hc28 => ?_) (fun hc28 => ?_)
    · have H := H.1 hc28
      refine ax_aload_n (pc' := 45) dX12_clause_44 rfl rfl ?_
      refine ax_iconst (pc' := 46) (v := (3 : Int32)) dX12_clause_45 (by decide) rfl ?_
      refine ax_aload_n (pc' := 47) dX12_clause_46 rfl rfl ?_
      refine ax_getI (pc' := 50) dX12_clause_47 fl_X12_113 sh_69 rfl rfl rfl ?_
      refine ay_V2 (pc' := 53) (ce' := 0) (sl' := 0) (mc2 := 0) (ms2 := 0) (I2 := i_X12_wrong) dX12_clause_50 ml_X12_133 sh_69 (by decide) rfl rfl rfl rfl rfl rfl rfl rfl rfl (ac_M.imp (o_X12_wrong _ (3 : Int32) (s1 69 4) H) ?_)
      rintro _ _ ⟨s50, rfl, rfl, H⟩
      refine ax_aload_n (pc' := 54) dX12_clause_53 rfl rfl ?_
      refine ax_getI (pc' := 57) dX12_clause_54 fl_X12_120 sh_69 rfl rfl rfl ?_
      refine ax_if_eq (pc' := 60) (tgt := 61) dX12_clause_57 (by decide) rfl (fun hc57 => ?_) (fun hc57 => ?_)
      · have H := H.1 hc57
        refine ax_aload_n (pc' := 62) dX12_clause_61 rfl rfl ?_
        refine ay_V0 (pc' := 65) (ce' := 0) (sl' := 0) (mc2 := 0) (ms2 := 0) (I2 := i_X12_skipWord) dX12_clause_62 ml_X12_157 sh_69 (by decide) rfl rfl rfl rfl rfl rfl rfl rfl rfl (ac_M.imp (o_X12_skipWord _  H) ?_)
        rintro _ _ ⟨s62, rfl, rfl, H⟩
        refine ax_aload_n (pc' := 66) dX12_clause_65 rfl rfl ?_
        refine ax_dup (pc' := 67) dX12_clause_66 rfl rfl ?_
        refine ax_getI (pc' := 70) dX12_clause_67 fl_X12_160 sh_69 rfl rfl rfl ?_
        refine ax_iconst (pc' := 71) (v := (1 : Int32)) dX12_clause_70 (by decide) rfl ?_
        refine ax_iadd (pc' := 72) dX12_clause_71 rfl ?_
        refine ax_putI (pc' := 75) dX12_clause_72 fp_X12_160 sh_69 rfl rfl rfl ?_
        refine ax_aload_n (pc' := 76) dX12_clause_75 rfl rfl ?_
        refine ax_getR (pc' := 79) dX12_clause_76 fl_X12_20 sh_69 rfl rfl rfl ?_
        refine ax_iload_n (pc' := 80) dX12_clause_79 rfl rfl ?_
        obtain ⟨hj80, H⟩ := H
        refine ax_iald (pc' := 81) dX12_clause_80 sh_72 hj80 rfl rfl ?_
        refine ax_istore_n (pc' := 82) dX12_clause_81 rfl rfl rfl ?_
        refine ax_iload_n (pc' := 83) dX12_clause_82 rfl rfl ?_
        by_cases hk83_0 : r1 = (0 : Int32)
        · have H := H.1 hk83_0
          refine ax_lookup (off := (25)) (tgt := 108) dX12_clause_83 (by decide) (by rw [hk83_0]; decide) (by decide) ?_
          refine ax_aload_n (pc' := 109) dX12_clause_108 rfl rfl ?_
          refine ax_getR (pc' := 112) dX12_clause_109 fl_X12_28 sh_69 rfl rfl rfl ?_
          refine ax_iload_n (pc' := 113) dX12_clause_112 rfl rfl ?_
          obtain ⟨hj113, H⟩ := H
          refine ax_aald (pc' := 114) dX12_clause_113 sh_74 hj113 rfl rfl ?_
          refine ax_iconst (pc' := 115) (v := (0 : Int32)) dX12_clause_114 (by decide) rfl ?_
          refine ax_aload_n (pc' := 116) dX12_clause_115 rfl rfl ?_
          refine ax_iconst (pc' := 117) (v := (0 : Int32)) dX12_clause_116 (by decide) rfl ?_
          refine ax_bipush (pc' := 119) (v := (99 : Int32)) dX12_clause_117 (by decide) rfl ?_
          refine ay_V2 (pc' := 122) (ce' := 0) (sl' := 0) (mc2 := 0) (ms2 := 0) (I2 := i_X12_number) dX12_clause_119 ml_X12_166 sh_69 (by decide) rfl rfl rfl rfl rfl rfl rfl rfl rfl (ac_M.imp (o_X12_number _ (0 : Int32) (99 : Int32) H) ?_)
          rintro _ _ ⟨r119, s119, rfl, rfl, H⟩
          refine ax_iast (pc' := 123) dX12_clause_122 (sh_r_75 _ (ac_lt hj113)) (ac_in (by decide)) (sh_n_75 _ (ac_lt hj113)) rfl ?_
          refine ax_aload_n (pc' := 124) dX12_clause_123 rfl rfl ?_
          refine ax_getR (pc' := 127) dX12_clause_124 fl_X12_28 sh_69 rfl rfl rfl ?_
          refine ax_iload_n (pc' := 128) dX12_clause_127 rfl rfl ?_
          obtain ⟨hj128, H⟩ := H
          refine ax_aald (pc' := 129) dX12_clause_128 sh_74 hj128 rfl rfl ?_
          refine ax_iconst (pc' := 130) (v := (1 : Int32)) dX12_clause_129 (by decide) rfl ?_
          refine ax_aload_n (pc' := 131) dX12_clause_130 rfl rfl ?_
          refine ax_iconst (pc' := 132) (v := (0 : Int32)) dX12_clause_131 (by decide) rfl ?_
          refine ax_bipush (pc' := 134) (v := (9 : Int32)) dX12_clause_132 (by decide) rfl ?_
          refine ay_V2 (pc' := 137) (ce' := 0) (sl' := 0) (mc2 := 0) (ms2 := 0) (I2 := i_X12_number) dX12_clause_134 ml_X12_166 sh_69 (by decide) rfl rfl rfl rfl rfl rfl rfl rfl rfl (ac_M.imp (o_X12_number _ (0 : Int32) (9 : Int32) H) ?_)
          rintro _ _ ⟨r134, s134, rfl, rfl, H⟩
          refine ax_iast (pc' := 138) dX12_clause_137 (sh_r_75 _ (ac_lt hj128)) (ac_in (by decide)) (sh_n_75 _ (ac_lt hj128)) rfl ?_
          refine ax_goto (tgt := 271) dX12_clause_138 (by decide) ?_
          refine ax_aload_n (pc' := 272) dX12_clause_271 rfl rfl ?_
          refine ax_bipush (pc' := 274) (v := (59 : Int32)) dX12_clause_272 (by decide) rfl ?_
          refine ay_V1 (pc' := 277) (ce' := 0) (sl' := 0) (mc2 := 0) (ms2 := 0) (I2 := i_X12_sign) dX12_clause_274 ml_X12_179 sh_69 (by decide) rfl rfl rfl rfl rfl rfl rfl rfl rfl (ac_M.imp (o_X12_sign _ (59 : Int32) H) ?_)
          rintro _ _ ⟨s274, rfl, rfl, H⟩
          refine ax_aload_n (pc' := 278) dX12_clause_277 rfl rfl ?_
          refine ax_getR (pc' := 281) dX12_clause_278 fl_X12_20 sh_69 rfl rfl rfl ?_
          refine ax_iload_n (pc' := 282) dX12_clause_281 rfl rfl ?_
          refine ax_dup2 (pc' := 283) dX12_clause_282 rfl rfl rfl ?_
          obtain ⟨hj283, H⟩ := H
          refine ax_iald (pc' := 284) dX12_clause_283 sh_72 hj283 rfl rfl ?_
          refine ax_aload_n (pc' := 285) dX12_clause_284 rfl rfl ?_
          refine ax_getI (pc' := 288) dX12_clause_285 fl_X12_120 sh_69 rfl rfl rfl ?_
          refine ax_if_ne (pc' := 291) (tgt := 295) dX12_clause_288 (by decide) rfl (fun hc288 => ?_) (fun hc288 => ?_)
          · have H := H.1 hc288
            refine ax_iconst (pc' := 296) (v := (0 : Int32)) dX12_clause_295 (by decide) rfl ?_
            refine ax_iadd (pc' := 297) dX12_clause_296 rfl ?_
            obtain ⟨hj297, H⟩ := H
            refine ax_iast (pc' := 298) dX12_clause_297 sh_72 hj297 rfl rfl ?_
            exact ax_vret dX12_clause_298 rfl rfl rfl ⟨_, rfl, rfl, H⟩
          · have H := H.2 hc288
            refine ax_iconst (pc' := 292) (v := (1 : Int32)) dX12_clause_291 (by decide) rfl ?_
            refine ax_goto (tgt := 296) dX12_clause_292 (by decide) ?_
            refine ax_iadd (pc' := 297) dX12_clause_296 rfl ?_
            obtain ⟨hj297, H⟩ := H
            refine ax_iast (pc' := 298) dX12_clause_297 sh_72 hj297 rfl rfl ?_
            exact ax_vret dX12_clause_298 rfl rfl rfl ⟨_, rfl, rfl, H⟩
        have H := H.2
        by_cases hk83_1 : r1 = (1 : Int32)
        · have H := H.1 hk83_1
          refine ax_lookup (off := (58)) (tgt := 141) dX12_clause_83 (by decide) (by rw [hk83_1]; decide) (by decide) ?_
          refine ax_aload_n (pc' := 142) dX12_clause_141 rfl rfl ?_
          refine ax_getR (pc' := 145) dX12_clause_142 fl_X12_34 sh_69 rfl rfl rfl ?_
          refine ax_iload_n (pc' := 146) dX12_clause_145 rfl rfl ?_
          obtain ⟨hj146, H⟩ := H
          refine ax_aald (pc' := 147) dX12_clause_146 sh_88 hj146 rfl rfl ?_
          refine ax_iconst (pc' := 148) (v := (0 : Int32)) dX12_clause_147 (by decide) rfl ?_
          refine ax_aload_n (pc' := 149) dX12_clause_148 rfl rfl ?_
          refine ax_iconst (pc' := 150) (v := (0 : Int32)) dX12_clause_149 (by decide) rfl ?_
          refine ax_aload_n (pc' := 151) dX12_clause_150 rfl rfl ?_
          refine ax_getR (pc' := 154) dX12_clause_151 fl_X12_20 sh_69 rfl rfl rfl ?_
          refine ax_iconst (pc' := 155) (v := (0 : Int32)) dX12_clause_154 (by decide) rfl ?_
          refine ax_iald (pc' := 156) dX12_clause_155 sh_72 (ac_in (by decide)) rfl rfl ?_
          refine ax_iconst (pc' := 157) (v := (1 : Int32)) dX12_clause_156 (by decide) rfl ?_
          refine ax_isub (pc' := 158) dX12_clause_157 rfl ?_
          refine ay_V2 (pc' := 161) (ce' := 0) (sl' := 0) (mc2 := 0) (ms2 := 0) (I2 := i_X12_number) dX12_clause_158 ml_X12_166 sh_69 (by decide) rfl rfl rfl rfl rfl rfl rfl rfl rfl (ac_M.imp (o_X12_number _ (0 : Int32) (((ac_u s62 69 7 ((s62 69 7) + (1 : Int32))) 72 (0 : Int32).toNatClampNeg) - (1 : Int32)) H) ?_)
          rintro _ _ ⟨r158, s158, rfl, rfl, H⟩
          refine ax_iast (pc' := 162) dX12_clause_161 (sh_r_89 _ (ac_lt hj146)) (ac_in (by decide)) (sh_n_89 _ (ac_lt hj146)) rfl ?_
          refine ax_aload_n (pc' := 163) dX12_clause_162 rfl rfl ?_
          refine ax_getR (pc' := 166) dX12_clause_163 fl_X12_34 sh_69 rfl rfl rfl ?_
          refine ax_iload_n (pc' := 167) dX12_clause_166 rfl rfl ?_
          obtain ⟨hj167, H⟩ := H
          refine ax_aald (pc' := 168) dX12_clause_167 sh_88 hj167 rfl rfl ?_
          refine ax_iconst (pc' := 169) (v := (1 : Int32)) dX12_clause_168 (by decide) rfl ?_
          refine ax_aload_n (pc' := 170) dX12_clause_169 rfl rfl ?_
          refine ax_aload_n (pc' := 171) dX12_clause_170 rfl rfl ?_
          refine ax_getR (pc' := 174) dX12_clause_171 fl_X12_34 sh_69 rfl rfl rfl ?_
          refine ax_iload_n (pc' := 175) dX12_clause_174 rfl rfl ?_
          obtain ⟨hj175, H⟩ := H
          refine ax_aald (pc' := 176) dX12_clause_175 sh_88 hj175 rfl rfl ?_
          refine ax_iconst (pc' := 177) (v := (0 : Int32)) dX12_clause_176 (by decide) rfl ?_
          refine ax_iald (pc' := 178) dX12_clause_177 (sh_r_89 _ (ac_lt hj175)) (ac_in (by decide)) (sh_n_89 _ (ac_lt hj175)) rfl ?_
          refine ax_aload_n (pc' := 179) dX12_clause_178 rfl rfl ?_
          refine ax_getR (pc' := 182) dX12_clause_179 fl_X12_20 sh_69 rfl rfl rfl ?_
          refine ax_iconst (pc' := 183) (v := (0 : Int32)) dX12_clause_182 (by decide) rfl ?_
          refine ax_iald (pc' := 184) dX12_clause_183 sh_72 (ac_in (by decide)) rfl rfl ?_
          refine ay_V2 (pc' := 187) (ce' := 0) (sl' := 0) (mc2 := 0) (ms2 := 0) (I2 := i_X12_another) dX12_clause_184 ml_X12_176 sh_69 (by decide) rfl rfl rfl rfl rfl rfl rfl rfl rfl (ac_M.imp (o_X12_another _ ((ac_u s158 (89 + ((ac_u s62 69 7 ((s62 69 7) + (1 : Int32))) 72 r1.toNatClampNeg).toNatClampNeg) (0 : Int32).toNatClampNeg r158) (89 + ((ac_u s62 69 7 ((s62 69 7) + (1 : Int32))) 72 r1.toNatClampNeg).toNatClampNeg) (0 : Int32).toNatClampNeg) ((ac_u s158 (89 + ((ac_u s62 69 7 ((s62 69 7) + (1 : Int32))) 72 r1.toNatClampNeg).toNatClampNeg) (0 : Int32).toNatClampNeg r158) 72 (0 : Int32).toNatClampNeg) H) ?_)
          rintro _ _ ⟨r184, s184, rfl, rfl, H⟩
          refine ax_iast (pc' := 188) dX12_clause_187 (sh_r_89 _ (ac_lt hj167)) (ac_in (by decide)) (sh_n_89 _ (ac_lt hj167)) rfl ?_
          refine ax_aload_n (pc' := 189) dX12_clause_188 rfl rfl ?_
          refine ax_getR (pc' := 192) dX12_clause_189 fl_X12_34 sh_69 rfl rfl rfl ?_
          refine ax_iload_n (pc' := 193) dX12_clause_192 rfl rfl ?_
          obtain ⟨hj193, H⟩ := H
          refine ax_aald (pc' := 194) dX12_clause_193 sh_88 hj193 rfl rfl ?_
          refine ax_iconst (pc' := 195) (v := (2 : Int32)) dX12_clause_194 (by decide) rfl ?_
          refine ax_aload_n (pc' := 196) dX12_clause_195 rfl rfl ?_
          refine ax_iconst (pc' := 197) (v := (0 : Int32)) dX12_clause_196 (by decide) rfl ?_
          refine ax_iconst (pc' := 198) (v := (5 : Int32)) dX12_clause_197 (by decide) rfl ?_
          refine ay_V2 (pc' := 201) (ce' := 0) (sl' := 0) (mc2 := 0) (ms2 := 0) (I2 := i_X12_number) dX12_clause_198 ml_X12_166 sh_69 (by decide) rfl rfl rfl rfl rfl rfl rfl rfl rfl (ac_M.imp (o_X12_number _ (0 : Int32) (5 : Int32) H) ?_)
          rintro _ _ ⟨r198, s198, rfl, rfl, H⟩
          refine ax_iast (pc' := 202) dX12_clause_201 (sh_r_89 _ (ac_lt hj193)) (ac_in (by decide)) (sh_n_89 _ (ac_lt hj193)) rfl ?_
          refine ax_aload_n (pc' := 203) dX12_clause_202 rfl rfl ?_
          refine ax_getR (pc' := 206) dX12_clause_203 fl_X12_34 sh_69 rfl rfl rfl ?_
          refine ax_iload_n (pc' := 207) dX12_clause_206 rfl rfl ?_
          obtain ⟨hj207, H⟩ := H
          refine ax_aald (pc' := 208) dX12_clause_207 sh_88 hj207 rfl rfl ?_
          refine ax_iconst (pc' := 209) (v := (3 : Int32)) dX12_clause_208 (by decide) rfl ?_
          refine ax_aload_n (pc' := 210) dX12_clause_209 rfl rfl ?_
          refine ax_iconst (pc' := 211) (v := (1 : Int32)) dX12_clause_210 (by decide) rfl ?_
          refine ax_bipush (pc' := 213) (v := (30 : Int32)) dX12_clause_211 (by decide) rfl ?_
          refine ay_V2 (pc' := 216) (ce' := 0) (sl' := 0) (mc2 := 0) (ms2 := 0) (I2 := i_X12_number) dX12_clause_213 ml_X12_166 sh_69 (by decide) rfl rfl rfl rfl rfl rfl rfl rfl rfl (ac_M.imp (o_X12_number _ (1 : Int32) (30 : Int32) H) ?_)
          rintro _ _ ⟨r213, s213, rfl, rfl, H⟩
          refine ax_iast (pc' := 217) dX12_clause_216 (sh_r_89 _ (ac_lt hj207)) (ac_in (by decide)) (sh_n_89 _ (ac_lt hj207)) rfl ?_
          refine ax_goto (tgt := 271) dX12_clause_217 (by decide) ?_
          refine ax_aload_n (pc' := 272) dX12_clause_271 rfl rfl ?_
          refine ax_bipush (pc' := 274) (v := (59 : Int32)) dX12_clause_272 (by decide) rfl ?_
          refine ay_V1 (pc' := 277) (ce' := 0) (sl' := 0) (mc2 := 0) (ms2 := 0) (I2 := i_X12_sign) dX12_clause_274 ml_X12_179 sh_69 (by decide) rfl rfl rfl rfl rfl rfl rfl rfl rfl (ac_M.imp (o_X12_sign _ (59 : Int32) H) ?_)
          rintro _ _ ⟨s274, rfl, rfl, H⟩
          refine ax_aload_n (pc' := 278) dX12_clause_277 rfl rfl ?_
          refine ax_getR (pc' := 281) dX12_clause_278 fl_X12_20 sh_69 rfl rfl rfl ?_
          refine ax_iload_n (pc' := 282) dX12_clause_281 rfl rfl ?_
          refine ax_dup2 (pc' := 283) dX12_clause_282 rfl rfl rfl ?_
          obtain ⟨hj283, H⟩ := H
          refine ax_iald (pc' := 284) dX12_clause_283 sh_72 hj283 rfl rfl ?_
          refine ax_aload_n (pc' := 285) dX12_clause_284 rfl rfl ?_
          refine ax_getI (pc' := 288) dX12_clause_285 fl_X12_120 sh_69 rfl rfl rfl ?_
          refine ax_if_ne (pc' := 291) (tgt := 295) dX12_clause_288 (by decide) rfl (fun hc288 => ?_) (fun hc288 => ?_)
          · have H := H.1 hc288
            refine ax_iconst (pc' := 296) (v := (0 : Int32)) dX12_clause_295 (by decide) rfl ?_
            refine ax_iadd (pc' := 297) dX12_clause_296 rfl ?_
            obtain ⟨hj297, H⟩ := H
            refine ax_iast (pc' := 298) dX12_clause_297 sh_72 hj297 rfl rfl ?_
            exact ax_vret dX12_clause_298 rfl rfl rfl ⟨_, rfl, rfl, H⟩
          · have H := H.2 hc288
            refine ax_iconst (pc' := 292) (v := (1 : Int32)) dX12_clause_291 (by decide) rfl ?_
            refine ax_goto (tgt := 296) dX12_clause_292 (by decide) ?_
            refine ax_iadd (pc' := 297) dX12_clause_296 rfl ?_
            obtain ⟨hj297, H⟩ := H
            refine ax_iast (pc' := 298) dX12_clause_297 sh_72 hj297 rfl rfl ?_
            exact ax_vret dX12_clause_298 rfl rfl rfl ⟨_, rfl, rfl, H⟩
        have H := H.2
        have H := H ⟨hk83_0, hk83_1⟩
        refine ax_lookup (off := (137)) (tgt := 220) dX12_clause_83 (by decide) (ac_look_X12_clause_83 _ hk83_0 hk83_1) (by decide) ?_
        refine ax_aload_n (pc' := 221) dX12_clause_220 rfl rfl ?_
        refine ax_getR (pc' := 224) dX12_clause_221 fl_X12_40 sh_69 rfl rfl rfl ?_
        refine ax_iload_n (pc' := 225) dX12_clause_224 rfl rfl ?_
        obtain ⟨hj225, H⟩ := H
        refine ax_aald (pc' := 226) dX12_clause_225 sh_115 hj225 rfl rfl ?_
        refine ax_iconst (pc' := 227) (v := (0 : Int32)) dX12_clause_226 (by decide) rfl ?_
        refine ax_aload_n (pc' := 228) dX12_clause_227 rfl rfl ?_
        refine ax_iconst (pc' := 229) (v := (0 : Int32)) dX12_clause_228 (by decide) rfl ?_
        refine ax_iconst (pc' := 230) (v := (5 : Int32)) dX12_clause_229 (by decide) rfl ?_
        refine ay_V2 (pc' := 233) (ce' := 0) (sl' := 0) (mc2 := 0) (ms2 := 0) (I2 := i_X12_number) dX12_clause_230 ml_X12_166 sh_69 (by decide) rfl rfl rfl rfl rfl rfl rfl rfl rfl (ac_M.imp (o_X12_number _ (0 : Int32) (5 : Int32) H) ?_)
        rintro _ _ ⟨r230, s230, rfl, rfl, H⟩
        refine ax_iast (pc' := 234) dX12_clause_233 (sh_r_116 _ (ac_lt hj225)) (ac_in (by decide)) (sh_n_116 _ (ac_lt hj225)) rfl ?_
        refine ax_aload_n (pc' := 235) dX12_clause_234 rfl rfl ?_
        refine ax_getR (pc' := 238) dX12_clause_235 fl_X12_40 sh_69 rfl rfl rfl ?_
        refine ax_iload_n (pc' := 239) dX12_clause_238 rfl rfl ?_
        obtain ⟨hj239, H⟩ := H
        refine ax_aald (pc' := 240) dX12_clause_239 sh_115 hj239 rfl rfl ?_
        refine ax_iconst (pc' := 241) (v := (1 : Int32)) dX12_clause_240 (by decide) rfl ?_
        refine ax_aload_n (pc' := 242) dX12_clause_241 rfl rfl ?_
        refine ax_aload_n (pc' := 243) dX12_clause_242 rfl rfl ?_
        refine ax_getR (pc' := 246) dX12_clause_243 fl_X12_40 sh_69 rfl rfl rfl ?_
        refine ax_iload_n (pc' := 247) dX12_clause_246 rfl rfl ?_
        obtain ⟨hj247, H⟩ := H
        refine ax_aald (pc' := 248) dX12_clause_247 sh_115 hj247 rfl rfl ?_
        refine ax_iconst (pc' := 249) (v := (0 : Int32)) dX12_clause_248 (by decide) rfl ?_
        refine ax_iald (pc' := 250) dX12_clause_249 (sh_r_116 _ (ac_lt hj247)) (ac_in (by decide)) (sh_n_116 _ (ac_lt hj247)) rfl ?_
        refine ax_bipush (pc' := 252) (v := (6 : Int32)) dX12_clause_250 (by decide) rfl ?_
        refine ay_V2 (pc' := 255) (ce' := 0) (sl' := 0) (mc2 := 0) (ms2 := 0) (I2 := i_X12_another) dX12_clause_252 ml_X12_176 sh_69 (by decide) rfl rfl rfl rfl rfl rfl rfl rfl rfl (ac_M.imp (o_X12_another _ ((ac_u s230 (116 + ((ac_u s62 69 7 ((s62 69 7) + (1 : Int32))) 72 r1.toNatClampNeg).toNatClampNeg) (0 : Int32).toNatClampNeg r230) (116 + ((ac_u s62 69 7 ((s62 69 7) + (1 : Int32))) 72 r1.toNatClampNeg).toNatClampNeg) (0 : Int32).toNatClampNeg) (6 : Int32) H) ?_)
        rintro _ _ ⟨r252, s252, rfl, rfl, H⟩
        refine ax_iast (pc' := 256) dX12_clause_255 (sh_r_116 _ (ac_lt hj239)) (ac_in (by decide)) (sh_n_116 _ (ac_lt hj239)) rfl ?_
        refine ax_aload_n (pc' := 257) dX12_clause_256 rfl rfl ?_
        refine ax_getR (pc' := 260) dX12_clause_257 fl_X12_40 sh_69 rfl rfl rfl ?_
        refine ax_iload_n (pc' := 261) dX12_clause_260 rfl rfl ?_
        obtain ⟨hj261, H⟩ := H
        refine ax_aald (pc' := 262) dX12_clause_261 sh_115 hj261 rfl rfl ?_
        refine ax_iconst (pc' := 263) (v := (2 : Int32)) dX12_clause_262 (by decide) rfl ?_
        refine ax_aload_n (pc' := 264) dX12_clause_263 rfl rfl ?_
        refine ax_iconst (pc' := 265) (v := (1 : Int32)) dX12_clause_264 (by decide) rfl ?_
        refine ax_bipush (pc' := 267) (v := (9 : Int32)) dX12_clause_265 (by decide) rfl ?_
        refine ay_V2 (pc' := 270) (ce' := 0) (sl' := 0) (mc2 := 0) (ms2 := 0) (I2 := i_X12_number) dX12_clause_267 ml_X12_166 sh_69 (by decide) rfl rfl rfl rfl rfl rfl rfl rfl rfl (ac_M.imp (o_X12_number _ (1 : Int32) (9 : Int32) H) ?_)
        rintro _ _ ⟨r267, s267, rfl, rfl, H⟩
        refine ax_iast (pc' := 271) dX12_clause_270 (sh_r_116 _ (ac_lt hj261)) (ac_in (by decide)) (sh_n_116 _ (ac_lt hj261)) rfl ?_
        refine ax_aload_n (pc' := 272) dX12_clause_271 rfl rfl ?_
        refine ax_bipush (pc' := 274) (v := (59 : Int32)) dX12_clause_272 (by decide) rfl ?_
        refine ay_V1 (pc' := 277) (ce' := 0) (sl' := 0) (mc2 := 0) (ms2 := 0) (I2 := i_X12_sign) dX12_clause_274 ml_X12_179 sh_69 (by decide) rfl rfl rfl rfl rfl rfl rfl rfl rfl (ac_M.imp (o_X12_sign _ (59 : Int32) H) ?_)
        rintro _ _ ⟨s274, rfl, rfl, H⟩
        refine ax_aload_n (pc' := 278) dX12_clause_277 rfl rfl ?_
        refine ax_getR (pc' := 281) dX12_clause_278 fl_X12_20 sh_69 rfl rfl rfl ?_
        refine ax_iload_n (pc' := 282) dX12_clause_281 rfl rfl ?_
        refine ax_dup2 (pc' := 283) dX12_clause_282 rfl rfl rfl ?_
        obtain ⟨hj283, H⟩ := H
        refine ax_iald (pc' := 284) dX12_clause_283 sh_72 hj283 rfl rfl ?_
        refine ax_aload_n (pc' := 285) dX12_clause_284 rfl rfl ?_
        refine ax_getI (pc' := 288) dX12_clause_285 fl_X12_120 sh_69 rfl rfl rfl ?_
        refine ax_if_ne (pc' := 291) (tgt := 295) dX12_clause_288 (by decide) rfl (fun hc288 => ?_) (fun hc288 => ?_)
        · have H := H.1 hc288
          refine ax_iconst (pc' := 296) (v := (0 : Int32)) dX12_clause_295 (by decide) rfl ?_
          refine ax_iadd (pc' := 297) dX12_clause_296 rfl ?_
          obtain ⟨hj297, H⟩ := H
          refine ax_iast (pc' := 298) dX12_clause_297 sh_72 hj297 rfl rfl ?_
          exact ax_vret dX12_clause_298 rfl rfl rfl ⟨_, rfl, rfl, H⟩
        · have H := H.2 hc288
          refine ax_iconst (pc' := 292) (v := (1 : Int32)) dX12_clause_291 (by decide) rfl ?_
          refine ax_goto (tgt := 296) dX12_clause_292 (by decide) ?_
          refine ax_iadd (pc' := 297) dX12_clause_296 rfl ?_
          obtain ⟨hj297, H⟩ := H
          refine ax_iast (pc' := 298) dX12_clause_297 sh_72 hj297 rfl rfl ?_
          exact ax_vret dX12_clause_298 rfl rfl rfl ⟨_, rfl, rfl, H⟩
      · have H := H.2 hc57
        exact ax_vret dX12_clause_60 rfl rfl rfl ⟨_, rfl, rfl, H⟩
    · have H := H.2 hc28
      refine ax_aload_n (pc' := 32) dX12_clause_31 rfl rfl ?_
      refine ax_getR (pc' := 35) dX12_clause_32 fl_X12_20 sh_69 rfl rfl rfl ?_
      refine ax_iload_n (pc' := 36) dX12_clause_35 rfl rfl ?_
      obtain ⟨hj36, H⟩ := H
      refine ax_iald (pc' := 37) dX12_clause_36 sh_72 hj36 rfl rfl ?_
      refine ax_iload_n (pc' := 38) dX12_clause_37 rfl rfl ?_
      refine ay_S1 (pc' := 41) (ce' := 0) (sl' := 0) (mc2 := 0) (ms2 := 0) (I2 := i_X12_mostOf) dX12_clause_38 ml_X12_173 rfl rfl rfl rfl rfl rfl rfl rfl (ac_M.imp (o_X12_mostOf _ r1 H) ?_)
      rintro _ _ ⟨r38, s38, rfl, rfl, H⟩
      refine ax_icmp_ne (pc' := 44) (tgt := 53) dX12_clause_41 (by decide) rfl (fun hc41 => ?_) (fun hc41 => ?_)
      · have H := H.1 hc41
        refine ax_aload_n (pc' := 54) dX12_clause_53 rfl rfl ?_
        refine ax_getI (pc' := 57) dX12_clause_54 fl_X12_120 sh_69 rfl rfl rfl ?_
        refine ax_if_eq (pc' := 60) (tgt := 61) dX12_clause_57 (by decide) rfl (fun hc57 => ?_) (fun hc57 => ?_)
        · have H := H.1 hc57
          refine ax_aload_n (pc' := 62) dX12_clause_61 rfl rfl ?_
          refine ay_V0 (pc' := 65) (ce' := 0) (sl' := 0) (mc2 := 0) (ms2 := 0) (I2 := i_X12_skipWord) dX12_clause_62 ml_X12_157 sh_69 (by decide) rfl rfl rfl rfl rfl rfl rfl rfl rfl (ac_M.imp (o_X12_skipWord _  H) ?_)
          rintro _ _ ⟨s62, rfl, rfl, H⟩
          refine ax_aload_n (pc' := 66) dX12_clause_65 rfl rfl ?_
          refine ax_dup (pc' := 67) dX12_clause_66 rfl rfl ?_
          refine ax_getI (pc' := 70) dX12_clause_67 fl_X12_160 sh_69 rfl rfl rfl ?_
          refine ax_iconst (pc' := 71) (v := (1 : Int32)) dX12_clause_70 (by decide) rfl ?_
          refine ax_iadd (pc' := 72) dX12_clause_71 rfl ?_
          refine ax_putI (pc' := 75) dX12_clause_72 fp_X12_160 sh_69 rfl rfl rfl ?_
          refine ax_aload_n (pc' := 76) dX12_clause_75 rfl rfl ?_
          refine ax_getR (pc' := 79) dX12_clause_76 fl_X12_20 sh_69 rfl rfl rfl ?_
          refine ax_iload_n (pc' := 80) dX12_clause_79 rfl rfl ?_
          obtain ⟨hj80, H⟩ := H
          refine ax_iald (pc' := 81) dX12_clause_80 sh_72 hj80 rfl rfl ?_
          refine ax_istore_n (pc' := 82) dX12_clause_81 rfl rfl rfl ?_
          refine ax_iload_n (pc' := 83) dX12_clause_82 rfl rfl ?_
          by_cases hk83_0 : r1 = (0 : Int32)
          · have H := H.1 hk83_0
            refine ax_lookup (off := (25)) (tgt := 108) dX12_clause_83 (by decide) (by rw [hk83_0]; decide) (by decide) ?_
            refine ax_aload_n (pc' := 109) dX12_clause_108 rfl rfl ?_
            refine ax_getR (pc' := 112) dX12_clause_109 fl_X12_28 sh_69 rfl rfl rfl ?_
            refine ax_iload_n (pc' := 113) dX12_clause_112 rfl rfl ?_
            obtain ⟨hj113, H⟩ := H
            refine ax_aald (pc' := 114) dX12_clause_113 sh_74 hj113 rfl rfl ?_
            refine ax_iconst (pc' := 115) (v := (0 : Int32)) dX12_clause_114 (by decide) rfl ?_
            refine ax_aload_n (pc' := 116) dX12_clause_115 rfl rfl ?_
            refine ax_iconst (pc' := 117) (v := (0 : Int32)) dX12_clause_116 (by decide) rfl ?_
            refine ax_bipush (pc' := 119) (v := (99 : Int32)) dX12_clause_117 (by decide) rfl ?_
            refine ay_V2 (pc' := 122) (ce' := 0) (sl' := 0) (mc2 := 0) (ms2 := 0) (I2 := i_X12_number) dX12_clause_119 ml_X12_166 sh_69 (by decide) rfl rfl rfl rfl rfl rfl rfl rfl rfl (ac_M.imp (o_X12_number _ (0 : Int32) (99 : Int32) H) ?_)
            rintro _ _ ⟨r119, s119, rfl, rfl, H⟩
            refine ax_iast (pc' := 123) dX12_clause_122 (sh_r_75 _ (ac_lt hj113)) (ac_in (by decide)) (sh_n_75 _ (ac_lt hj113)) rfl ?_
            refine ax_aload_n (pc' := 124) dX12_clause_123 rfl rfl ?_
            refine ax_getR (pc' := 127) dX12_clause_124 fl_X12_28 sh_69 rfl rfl rfl ?_
            refine ax_iload_n (pc' := 128) dX12_clause_127 rfl rfl ?_
            obtain ⟨hj128, H⟩ := H
            refine ax_aald (pc' := 129) dX12_clause_128 sh_74 hj128 rfl rfl ?_
            refine ax_iconst (pc' := 130) (v := (1 : Int32)) dX12_clause_129 (by decide) rfl ?_
            refine ax_aload_n (pc' := 131) dX12_clause_130 rfl rfl ?_
            refine ax_iconst (pc' := 132) (v := (0 : Int32)) dX12_clause_131 (by decide) rfl ?_
            refine ax_bipush (pc' := 134) (v := (9 : Int32)) dX12_clause_132 (by decide) rfl ?_
            refine ay_V2 (pc' := 137) (ce' := 0) (sl' := 0) (mc2 := 0) (ms2 := 0) (I2 := i_X12_number) dX12_clause_134 ml_X12_166 sh_69 (by decide) rfl rfl rfl rfl rfl rfl rfl rfl rfl (ac_M.imp (o_X12_number _ (0 : Int32) (9 : Int32) H) ?_)
            rintro _ _ ⟨r134, s134, rfl, rfl, H⟩
            refine ax_iast (pc' := 138) dX12_clause_137 (sh_r_75 _ (ac_lt hj128)) (ac_in (by decide)) (sh_n_75 _ (ac_lt hj128)) rfl ?_
            refine ax_goto (tgt := 271) dX12_clause_138 (by decide) ?_
            refine ax_aload_n (pc' := 272) dX12_clause_271 rfl rfl ?_
            refine ax_bipush (pc' := 274) (v := (59 : Int32)) dX12_clause_272 (by decide) rfl ?_
            refine ay_V1 (pc' := 277) (ce' := 0) (sl' := 0) (mc2 := 0) (ms2 := 0) (I2 := i_X12_sign) dX12_clause_274 ml_X12_179 sh_69 (by decide) rfl rfl rfl rfl rfl rfl rfl rfl rfl (ac_M.imp (o_X12_sign _ (59 : Int32) H) ?_)
            rintro _ _ ⟨s274, rfl, rfl, H⟩
            refine ax_aload_n (pc' := 278) dX12_clause_277 rfl rfl ?_
            refine ax_getR (pc' := 281) dX12_clause_278 fl_X12_20 sh_69 rfl rfl rfl ?_
            refine ax_iload_n (pc' := 282) dX12_clause_281 rfl rfl ?_
            refine ax_dup2 (pc' := 283) dX12_clause_282 rfl rfl rfl ?_
            obtain ⟨hj283, H⟩ := H
            refine ax_iald (pc' := 284) dX12_clause_283 sh_72 hj283 rfl rfl ?_
            refine ax_aload_n (pc' := 285) dX12_clause_284 rfl rfl ?_
            refine ax_getI (pc' := 288) dX12_clause_285 fl_X12_120 sh_69 rfl rfl rfl ?_
            refine ax_if_ne (pc' := 291) (tgt := 295) dX12_clause_288 (by decide) rfl (fun hc288 => ?_) (fun hc288 => ?_)
            · have H := H.1 hc288
              refine ax_iconst (pc' := 296) (v := (0 : Int32)) dX12_clause_295 (by decide) rfl ?_
              refine ax_iadd (pc' := 297) dX12_clause_296 rfl ?_
              obtain ⟨hj297, H⟩ := H
              refine ax_iast (pc' := 298) dX12_clause_297 sh_72 hj297 rfl rfl ?_
              exact ax_vret dX12_clause_298 rfl rfl rfl ⟨_, rfl, rfl, H⟩
            · have H := H.2 hc288
              refine ax_iconst (pc' := 292) (v := (1 : Int32)) dX12_clause_291 (by decide) rfl ?_
              refine ax_goto (tgt := 296) dX12_clause_292 (by decide) ?_
              refine ax_iadd (pc' := 297) dX12_clause_296 rfl ?_
              obtain ⟨hj297, H⟩ := H
              refine ax_iast (pc' := 298) dX12_clause_297 sh_72 hj297 rfl rfl ?_
              exact ax_vret dX12_clause_298 rfl rfl rfl ⟨_, rfl, rfl, H⟩
          have H := H.2
          by_cases hk83_1 : r1 = (1 : Int32)
          · have H := H.1 hk83_1
            refine ax_lookup (off := (58)) (tgt := 141) dX12_clause_83 (by decide) (by rw [hk83_1]; decide) (by decide) ?_
            refine ax_aload_n (pc' := 142) dX12_clause_141 rfl rfl ?_
            refine ax_getR (pc' := 145) dX12_clause_142 fl_X12_34 sh_69 rfl rfl rfl ?_
            refine ax_iload_n (pc' := 146) dX12_clause_145 rfl rfl ?_
            obtain ⟨hj146, H⟩ := H
            refine ax_aald (pc' := 147) dX12_clause_146 sh_88 hj146 rfl rfl ?_
            refine ax_iconst (pc' := 148) (v := (0 : Int32)) dX12_clause_147 (by decide) rfl ?_
            refine ax_aload_n (pc' := 149) dX12_clause_148 rfl rfl ?_
            refine ax_iconst (pc' := 150) (v := (0 : Int32)) dX12_clause_149 (by decide) rfl ?_
            refine ax_aload_n (pc' := 151) dX12_clause_150 rfl rfl ?_
            refine ax_getR (pc' := 154) dX12_clause_151 fl_X12_20 sh_69 rfl rfl rfl ?_
            refine ax_iconst (pc' := 155) (v := (0 : Int32)) dX12_clause_154 (by decide) rfl ?_
            refine ax_iald (pc' := 156) dX12_clause_155 sh_72 (ac_in (by decide)) rfl rfl ?_
            refine ax_iconst (pc' := 157) (v := (1 : Int32)) dX12_clause_156 (by decide) rfl ?_
            refine ax_isub (pc' := 158) dX12_clause_157 rfl ?_
            refine ay_V2 (pc' := 161) (ce' := 0) (sl' := 0) (mc2 := 0) (ms2 := 0) (I2 := i_X12_number) dX12_clause_158 ml_X12_166 sh_69 (by decide) rfl rfl rfl rfl rfl rfl rfl rfl rfl (ac_M.imp (o_X12_number _ (0 : Int32) (((ac_u s62 69 7 ((s62 69 7) + (1 : Int32))) 72 (0 : Int32).toNatClampNeg) - (1 : Int32)) H) ?_)
            rintro _ _ ⟨r158, s158, rfl, rfl, H⟩
            refine ax_iast (pc' := 162) dX12_clause_161 (sh_r_89 _ (ac_lt hj146)) (ac_in (by decide)) (sh_n_89 _ (ac_lt hj146)) rfl ?_
            refine ax_aload_n (pc' := 163) dX12_clause_162 rfl rfl ?_
            refine ax_getR (pc' := 166) dX12_clause_163 fl_X12_34 sh_69 rfl rfl rfl ?_
            refine ax_iload_n (pc' := 167) dX12_clause_166 rfl rfl ?_
            obtain ⟨hj167, H⟩ := H
            refine ax_aald (pc' := 168) dX12_clause_167 sh_88 hj167 rfl rfl ?_
            refine ax_iconst (pc' := 169) (v := (1 : Int32)) dX12_clause_168 (by decide) rfl ?_
            refine ax_aload_n (pc' := 170) dX12_clause_169 rfl rfl ?_
            refine ax_aload_n (pc' := 171) dX12_clause_170 rfl rfl ?_
            refine ax_getR (pc' := 174) dX12_clause_171 fl_X12_34 sh_69 rfl rfl rfl ?_
            refine ax_iload_n (pc' := 175) dX12_clause_174 rfl rfl ?_
            obtain ⟨hj175, H⟩ := H
            refine ax_aald (pc' := 176) dX12_clause_175 sh_88 hj175 rfl rfl ?_
            refine ax_iconst (pc' := 177) (v := (0 : Int32)) dX12_clause_176 (by decide) rfl ?_
            refine ax_iald (pc' := 178) dX12_clause_177 (sh_r_89 _ (ac_lt hj175)) (ac_in (by decide)) (sh_n_89 _ (ac_lt hj175)) rfl ?_
            refine ax_aload_n (pc' := 179) dX12_clause_178 rfl rfl ?_
            refine ax_getR (pc' := 182) dX12_clause_179 fl_X12_20 sh_69 rfl rfl rfl ?_
            refine ax_iconst (pc' := 183) (v := (0 : Int32)) dX12_clause_182 (by decide) rfl ?_
            refine ax_iald (pc' := 184) dX12_clause_183 sh_72 (ac_in (by decide)) rfl rfl ?_
            refine ay_V2 (pc' := 187) (ce' := 0) (sl' := 0) (mc2 := 0) (ms2 := 0) (I2 := i_X12_another) dX12_clause_184 ml_X12_176 sh_69 (by decide) rfl rfl rfl rfl rfl rfl rfl rfl rfl (ac_M.imp (o_X12_another _ ((ac_u s158 (89 + ((ac_u s62 69 7 ((s62 69 7) + (1 : Int32))) 72 r1.toNatClampNeg).toNatClampNeg) (0 : Int32).toNatClampNeg r158) (89 + ((ac_u s62 69 7 ((s62 69 7) + (1 : Int32))) 72 r1.toNatClampNeg).toNatClampNeg) (0 : Int32).toNatClampNeg) ((ac_u s158 (89 + ((ac_u s62 69 7 ((s62 69 7) + (1 : Int32))) 72 r1.toNatClampNeg).toNatClampNeg) (0 : Int32).toNatClampNeg r158) 72 (0 : Int32).toNatClampNeg) H) ?_)
            rintro _ _ ⟨r184, s184, rfl, rfl, H⟩
            refine ax_iast (pc' := 188) dX12_clause_187 (sh_r_89 _ (ac_lt hj167)) (ac_in (by decide)) (sh_n_89 _ (ac_lt hj167)) rfl ?_
            refine ax_aload_n (pc' := 189) dX12_clause_188 rfl rfl ?_
            refine ax_getR (pc' := 192) dX12_clause_189 fl_X12_34 sh_69 rfl rfl rfl ?_
            refine ax_iload_n (pc' := 193) dX12_clause_192 rfl rfl ?_
            obtain ⟨hj193, H⟩ := H
            refine ax_aald (pc' := 194) dX12_clause_193 sh_88 hj193 rfl rfl ?_
            refine ax_iconst (pc' := 195) (v := (2 : Int32)) dX12_clause_194 (by decide) rfl ?_
            refine ax_aload_n (pc' := 196) dX12_clause_195 rfl rfl ?_
            refine ax_iconst (pc' := 197) (v := (0 : Int32)) dX12_clause_196 (by decide) rfl ?_
            refine ax_iconst (pc' := 198) (v := (5 : Int32)) dX12_clause_197 (by decide) rfl ?_
            refine ay_V2 (pc' := 201) (ce' := 0) (sl' := 0) (mc2 := 0) (ms2 := 0) (I2 := i_X12_number) dX12_clause_198 ml_X12_166 sh_69 (by decide) rfl rfl rfl rfl rfl rfl rfl rfl rfl (ac_M.imp (o_X12_number _ (0 : Int32) (5 : Int32) H) ?_)
            rintro _ _ ⟨r198, s198, rfl, rfl, H⟩
            refine ax_iast (pc' := 202) dX12_clause_201 (sh_r_89 _ (ac_lt hj193)) (ac_in (by decide)) (sh_n_89 _ (ac_lt hj193)) rfl ?_
            refine ax_aload_n (pc' := 203) dX12_clause_202 rfl rfl ?_
            refine ax_getR (pc' := 206) dX12_clause_203 fl_X12_34 sh_69 rfl rfl rfl ?_
            refine ax_iload_n (pc' := 207) dX12_clause_206 rfl rfl ?_
            obtain ⟨hj207, H⟩ := H
            refine ax_aald (pc' := 208) dX12_clause_207 sh_88 hj207 rfl rfl ?_
            refine ax_iconst (pc' := 209) (v := (3 : Int32)) dX12_clause_208 (by decide) rfl ?_
            refine ax_aload_n (pc' := 210) dX12_clause_209 rfl rfl ?_
            refine ax_iconst (pc' := 211) (v := (1 : Int32)) dX12_clause_210 (by decide) rfl ?_
            refine ax_bipush (pc' := 213) (v := (30 : Int32)) dX12_clause_211 (by decide) rfl ?_
            refine ay_V2 (pc' := 216) (ce' := 0) (sl' := 0) (mc2 := 0) (ms2 := 0) (I2 := i_X12_number) dX12_clause_213 ml_X12_166 sh_69 (by decide) rfl rfl rfl rfl rfl rfl rfl rfl rfl (ac_M.imp (o_X12_number _ (1 : Int32) (30 : Int32) H) ?_)
            rintro _ _ ⟨r213, s213, rfl, rfl, H⟩
            refine ax_iast (pc' := 217) dX12_clause_216 (sh_r_89 _ (ac_lt hj207)) (ac_in (by decide)) (sh_n_89 _ (ac_lt hj207)) rfl ?_
            refine ax_goto (tgt := 271) dX12_clause_217 (by decide) ?_
            refine ax_aload_n (pc' := 272) dX12_clause_271 rfl rfl ?_
            refine ax_bipush (pc' := 274) (v := (59 : Int32)) dX12_clause_272 (by decide) rfl ?_
            refine ay_V1 (pc' := 277) (ce' := 0) (sl' := 0) (mc2 := 0) (ms2 := 0) (I2 := i_X12_sign) dX12_clause_274 ml_X12_179 sh_69 (by decide) rfl rfl rfl rfl rfl rfl rfl rfl rfl (ac_M.imp (o_X12_sign _ (59 : Int32) H) ?_)
            rintro _ _ ⟨s274, rfl, rfl, H⟩
            refine ax_aload_n (pc' := 278) dX12_clause_277 rfl rfl ?_
            refine ax_getR (pc' := 281) dX12_clause_278 fl_X12_20 sh_69 rfl rfl rfl ?_
            refine ax_iload_n (pc' := 282) dX12_clause_281 rfl rfl ?_
            refine ax_dup2 (pc' := 283) dX12_clause_282 rfl rfl rfl ?_
            obtain ⟨hj283, H⟩ := H
            refine ax_iald (pc' := 284) dX12_clause_283 sh_72 hj283 rfl rfl ?_
            refine ax_aload_n (pc' := 285) dX12_clause_284 rfl rfl ?_
            refine ax_getI (pc' := 288) dX12_clause_285 fl_X12_120 sh_69 rfl rfl rfl ?_
            refine ax_if_ne (pc' := 291) (tgt := 295) dX12_clause_288 (by decide) rfl (fun hc288 => ?_) (fun hc288 => ?_)
            · have H := H.1 hc288
              refine ax_iconst (pc' := 296) (v := (0 : Int32)) dX12_clause_295 (by decide) rfl ?_
              refine ax_iadd (pc' := 297) dX12_clause_296 rfl ?_
              obtain ⟨hj297, H⟩ := H
              refine ax_iast (pc' := 298) dX12_clause_297 sh_72 hj297 rfl rfl ?_
              exact ax_vret dX12_clause_298 rfl rfl rfl ⟨_, rfl, rfl, H⟩
            · have H := H.2 hc288
              refine ax_iconst (pc' := 292) (v := (1 : Int32)) dX12_clause_291 (by decide) rfl ?_
              refine ax_goto (tgt := 296) dX12_clause_292 (by decide) ?_
              refine ax_iadd (pc' := 297) dX12_clause_296 rfl ?_
              obtain ⟨hj297, H⟩ := H
              refine ax_iast (pc' := 298) dX12_clause_297 sh_72 hj297 rfl rfl ?_
              exact ax_vret dX12_clause_298 rfl rfl rfl ⟨_, rfl, rfl, H⟩
          have H := H.2
          have H := H ⟨hk83_0, hk83_1⟩
          refine ax_lookup (off := (137)) (tgt := 220) dX12_clause_83 (by decide) (ac_look_X12_clause_83 _ hk83_0 hk83_1) (by decide) ?_
          refine ax_aload_n (pc' := 221) dX12_clause_220 rfl rfl ?_
          refine ax_getR (pc' := 224) dX12_clause_221 fl_X12_40 sh_69 rfl rfl rfl ?_
          refine ax_iload_n (pc' := 225) dX12_clause_224 rfl rfl ?_
          obtain ⟨hj225, H⟩ := H
          refine ax_aald (pc' := 226) dX12_clause_225 sh_115 hj225 rfl rfl ?_
          refine ax_iconst (pc' := 227) (v := (0 : Int32)) dX12_clause_226 (by decide) rfl ?_
          refine ax_aload_n (pc' := 228) dX12_clause_227 rfl rfl ?_
          refine ax_iconst (pc' := 229) (v := (0 : Int32)) dX12_clause_228 (by decide) rfl ?_
          refine ax_iconst (pc' := 230) (v := (5 : Int32)) dX12_clause_229 (by decide) rfl ?_
          refine ay_V2 (pc' := 233) (ce' := 0) (sl' := 0) (mc2 := 0) (ms2 := 0) (I2 := i_X12_number) dX12_clause_230 ml_X12_166 sh_69 (by decide) rfl rfl rfl rfl rfl rfl rfl rfl rfl (ac_M.imp (o_X12_number _ (0 : Int32) (5 : Int32) H) ?_)
          rintro _ _ ⟨r230, s230, rfl, rfl, H⟩
          refine ax_iast (pc' := 234) dX12_clause_233 (sh_r_116 _ (ac_lt hj225)) (ac_in (by decide)) (sh_n_116 _ (ac_lt hj225)) rfl ?_
          refine ax_aload_n (pc' := 235) dX12_clause_234 rfl rfl ?_
          refine ax_getR (pc' := 238) dX12_clause_235 fl_X12_40 sh_69 rfl rfl rfl ?_
          refine ax_iload_n (pc' := 239) dX12_clause_238 rfl rfl ?_
          obtain ⟨hj239, H⟩ := H
          refine ax_aald (pc' := 240) dX12_clause_239 sh_115 hj239 rfl rfl ?_
          refine ax_iconst (pc' := 241) (v := (1 : Int32)) dX12_clause_240 (by decide) rfl ?_
          refine ax_aload_n (pc' := 242) dX12_clause_241 rfl rfl ?_
          refine ax_aload_n (pc' := 243) dX12_clause_242 rfl rfl ?_
          refine ax_getR (pc' := 246) dX12_clause_243 fl_X12_40 sh_69 rfl rfl rfl ?_
          refine ax_iload_n (pc' := 247) dX12_clause_246 rfl rfl ?_
          obtain ⟨hj247, H⟩ := H
          refine ax_aald (pc' := 248) dX12_clause_247 sh_115 hj247 rfl rfl ?_
          refine ax_iconst (pc' := 249) (v := (0 : Int32)) dX12_clause_248 (by decide) rfl ?_
          refine ax_iald (pc' := 250) dX12_clause_249 (sh_r_116 _ (ac_lt hj247)) (ac_in (by decide)) (sh_n_116 _ (ac_lt hj247)) rfl ?_
          refine ax_bipush (pc' := 252) (v := (6 : Int32)) dX12_clause_250 (by decide) rfl ?_
          refine ay_V2 (pc' := 255) (ce' := 0) (sl' := 0) (mc2 := 0) (ms2 := 0) (I2 := i_X12_another) dX12_clause_252 ml_X12_176 sh_69 (by decide) rfl rfl rfl rfl rfl rfl rfl rfl rfl (ac_M.imp (o_X12_another _ ((ac_u s230 (116 + ((ac_u s62 69 7 ((s62 69 7) + (1 : Int32))) 72 r1.toNatClampNeg).toNatClampNeg) (0 : Int32).toNatClampNeg r230) (116 + ((ac_u s62 69 7 ((s62 69 7) + (1 : Int32))) 72 r1.toNatClampNeg).toNatClampNeg) (0 : Int32).toNatClampNeg) (6 : Int32) H) ?_)
          rintro _ _ ⟨r252, s252, rfl, rfl, H⟩
          refine ax_iast (pc' := 256) dX12_clause_255 (sh_r_116 _ (ac_lt hj239)) (ac_in (by decide)) (sh_n_116 _ (ac_lt hj239)) rfl ?_
          refine ax_aload_n (pc' := 257) dX12_clause_256 rfl rfl ?_
          refine ax_getR (pc' := 260) dX12_clause_257 fl_X12_40 sh_69 rfl rfl rfl ?_
          refine ax_iload_n (pc' := 261) dX12_clause_260 rfl rfl ?_
          obtain ⟨hj261, H⟩ := H
          refine ax_aald (pc' := 262) dX12_clause_261 sh_115 hj261 rfl rfl ?_
          refine ax_iconst (pc' := 263) (v := (2 : Int32)) dX12_clause_262 (by decide) rfl ?_
          refine ax_aload_n (pc' := 264) dX12_clause_263 rfl rfl ?_
          refine ax_iconst (pc' := 265) (v := (1 : Int32)) dX12_clause_264 (by decide) rfl ?_
          refine ax_bipush (pc' := 267) (v := (9 : Int32)) dX12_clause_265 (by decide) rfl ?_
          refine ay_V2 (pc' := 270) (ce' := 0) (sl' := 0) (mc2 := 0) (ms2 := 0) (I2 := i_X12_number) dX12_clause_267 ml_X12_166 sh_69 (by decide) rfl rfl rfl rfl rfl rfl rfl rfl rfl (ac_M.imp (o_X12_number _ (1 : Int32) (9 : Int32) H) ?_)
          rintro _ _ ⟨r267, s267, rfl, rfl, H⟩
          refine ax_iast (pc' := 271) dX12_clause_270 (sh_r_116 _ (ac_lt hj261)) (ac_in (by decide)) (sh_n_116 _ (ac_lt hj261)) rfl ?_
          refine ax_aload_n (pc' := 272) dX12_clause_271 rfl rfl ?_
          refine ax_bipush (pc' := 274) (v := (59 : Int32)) dX12_clause_272 (by decide) rfl ?_
          refine ay_V1 (pc' := 277) (ce' := 0) (sl' := 0) (mc2 := 0) (ms2 := 0) (I2 := i_X12_sign) dX12_clause_274 ml_X12_179 sh_69 (by decide) rfl rfl rfl rfl rfl rfl rfl rfl rfl (ac_M.imp (o_X12_sign _ (59 : Int32) H) ?_)
          rintro _ _ ⟨s274, rfl, rfl, H⟩
          refine ax_aload_n (pc' := 278) dX12_clause_277 rfl rfl ?_
          refine ax_getR (pc' := 281) dX12_clause_278 fl_X12_20 sh_69 rfl rfl rfl ?_
          refine ax_iload_n (pc' := 282) dX12_clause_281 rfl rfl ?_
          refine ax_dup2 (pc' := 283) dX12_clause_282 rfl rfl rfl ?_
          obtain ⟨hj283, H⟩ := H
          refine ax_iald (pc' := 284) dX12_clause_283 sh_72 hj283 rfl rfl ?_
          refine ax_aload_n (pc' := 285) dX12_clause_284 rfl rfl ?_
          refine ax_getI (pc' := 288) dX12_clause_285 fl_X12_120 sh_69 rfl rfl rfl ?_
          refine ax_if_ne (pc' := 291) (tgt := 295) dX12_clause_288 (by decide) rfl (fun hc288 => ?_) (fun hc288 => ?_)
          · have H := H.1 hc288
            refine ax_iconst (pc' := 296) (v := (0 : Int32)) dX12_clause_295 (by decide) rfl ?_
            refine ax_iadd (pc' := 297) dX12_clause_296 rfl ?_
            obtain ⟨hj297, H⟩ := H
            refine ax_iast (pc' := 298) dX12_clause_297 sh_72 hj297 rfl rfl ?_
            exact ax_vret dX12_clause_298 rfl rfl rfl ⟨_, rfl, rfl, H⟩
          · have H := H.2 hc288
            refine ax_iconst (pc' := 292) (v := (1 : Int32)) dX12_clause_291 (by decide) rfl ?_
            refine ax_goto (tgt := 296) dX12_clause_292 (by decide) ?_
            refine ax_iadd (pc' := 297) dX12_clause_296 rfl ?_
            obtain ⟨hj297, H⟩ := H
            refine ax_iast (pc' := 298) dX12_clause_297 sh_72 hj297 rfl rfl ?_
            exact ax_vret dX12_clause_298 rfl rfl rfl ⟨_, rfl, rfl, H⟩
        · have H := H.2 hc57
          exact ax_vret dX12_clause_60 rfl rfl rfl ⟨_, rfl, rfl, H⟩
      · have H := H.2 hc41
        refine ax_aload_n (pc' := 45) dX12_clause_44 rfl rfl ?_
        refine ax_iconst (pc' := 46) (v := (3 : Int32)) dX12_clause_45 (by decide) rfl ?_
        refine ax_aload_n (pc' := 47) dX12_clause_46 rfl rfl ?_
        refine ax_getI (pc' := 50) dX12_clause_47 fl_X12_113 sh_69 rfl rfl rfl ?_
        refine ay_V2 (pc' := 53) (ce' := 0) (sl' := 0) (mc2 := 0) (ms2 := 0) (I2 := i_X12_wrong) dX12_clause_50 ml_X12_133 sh_69 (by decide) rfl rfl rfl rfl rfl rfl rfl rfl rfl (ac_M.imp (o_X12_wrong _ (3 : Int32) (s38 69 4) H) ?_)
        rintro _ _ ⟨s50, rfl, rfl, H⟩
        refine ax_aload_n (pc' := 54) dX12_clause_53 rfl rfl ?_
        refine ax_getI (pc' := 57) dX12_clause_54 fl_X12_120 sh_69 rfl rfl rfl ?_
        refine ax_if_eq (pc' := 60) (tgt := 61) dX12_clause_57 (by decide) rfl (fun hc57 => ?_) (fun hc57 => ?_)
        · have H := H.1 hc57
          refine ax_aload_n (pc' := 62) dX12_clause_61 rfl rfl ?_
          refine ay_V0 (pc' := 65) (ce' := 0) (sl' := 0) (mc2 := 0) (ms2 := 0) (I2 := i_X12_skipWord) dX12_clause_62 ml_X12_157 sh_69 (by decide) rfl rfl rfl rfl rfl rfl rfl rfl rfl (ac_M.imp (o_X12_skipWord _  H) ?_)
          rintro _ _ ⟨s62, rfl, rfl, H⟩
          refine ax_aload_n (pc' := 66) dX12_clause_65 rfl rfl ?_
          refine ax_dup (pc' := 67) dX12_clause_66 rfl rfl ?_
          refine ax_getI (pc' := 70) dX12_clause_67 fl_X12_160 sh_69 rfl rfl rfl ?_
          refine ax_iconst (pc' := 71) (v := (1 : Int32)) dX12_clause_70 (by decide) rfl ?_
          refine ax_iadd (pc' := 72) dX12_clause_71 rfl ?_
          refine ax_putI (pc' := 75) dX12_clause_72 fp_X12_160 sh_69 rfl rfl rfl ?_
          refine ax_aload_n (pc' := 76) dX12_clause_75 rfl rfl ?_
          refine ax_getR (pc' := 79) dX12_clause_76 fl_X12_20 sh_69 rfl rfl rfl ?_
          refine ax_iload_n (pc' := 80) dX12_clause_79 rfl rfl ?_
          obtain ⟨hj80, H⟩ := H
          refine ax_iald (pc' := 81) dX12_clause_80 sh_72 hj80 rfl rfl ?_
          refine ax_istore_n (pc' := 82) dX12_clause_81 rfl rfl rfl ?_
          refine ax_iload_n (pc' := 83) dX12_clause_82 rfl rfl ?_
          by_cases hk83_0 : r1 = (0 : Int32)
          · have H := H.1 hk83_0
            refine ax_lookup (off := (25)) (tgt := 108) dX12_clause_83 (by decide) (by rw [hk83_0]; decide) (by decide) ?_
            refine ax_aload_n (pc' := 109) dX12_clause_108 rfl rfl ?_
            refine ax_getR (pc' := 112) dX12_clause_109 fl_X12_28 sh_69 rfl rfl rfl ?_
            refine ax_iload_n (pc' := 113) dX12_clause_112 rfl rfl ?_
            obtain ⟨hj113, H⟩ := H
            refine ax_aald (pc' := 114) dX12_clause_113 sh_74 hj113 rfl rfl ?_
            refine ax_iconst (pc' := 115) (v := (0 : Int32)) dX12_clause_114 (by decide) rfl ?_
            refine ax_aload_n (pc' := 116) dX12_clause_115 rfl rfl ?_
            refine ax_iconst (pc' := 117) (v := (0 : Int32)) dX12_clause_116 (by decide) rfl ?_
            refine ax_bipush (pc' := 119) (v := (99 : Int32)) dX12_clause_117 (by decide) rfl ?_
            refine ay_V2 (pc' := 122) (ce' := 0) (sl' := 0) (mc2 := 0) (ms2 := 0) (I2 := i_X12_number) dX12_clause_119 ml_X12_166 sh_69 (by decide) rfl rfl rfl rfl rfl rfl rfl rfl rfl (ac_M.imp (o_X12_number _ (0 : Int32) (99 : Int32) H) ?_)
            rintro _ _ ⟨r119, s119, rfl, rfl, H⟩
            refine ax_iast (pc' := 123) dX12_clause_122 (sh_r_75 _ (ac_lt hj113)) (ac_in (by decide)) (sh_n_75 _ (ac_lt hj113)) rfl ?_
            refine ax_aload_n (pc' := 124) dX12_clause_123 rfl rfl ?_
            refine ax_getR (pc' := 127) dX12_clause_124 fl_X12_28 sh_69 rfl rfl rfl ?_
            refine ax_iload_n (pc' := 128) dX12_clause_127 rfl rfl ?_
            obtain ⟨hj128, H⟩ := H
            refine ax_aald (pc' := 129) dX12_clause_128 sh_74 hj128 rfl rfl ?_
            refine ax_iconst (pc' := 130) (v := (1 : Int32)) dX12_clause_129 (by decide) rfl ?_
            refine ax_aload_n (pc' := 131) dX12_clause_130 rfl rfl ?_
            refine ax_iconst (pc' := 132) (v := (0 : Int32)) dX12_clause_131 (by decide) rfl ?_
            refine ax_bipush (pc' := 134) (v := (9 : Int32)) dX12_clause_132 (by decide) rfl ?_
            refine ay_V2 (pc' := 137) (ce' := 0) (sl' := 0) (mc2 := 0) (ms2 := 0) (I2 := i_X12_number) dX12_clause_134 ml_X12_166 sh_69 (by decide) rfl rfl rfl rfl rfl rfl rfl rfl rfl (ac_M.imp (o_X12_number _ (0 : Int32) (9 : Int32) H) ?_)
            rintro _ _ ⟨r134, s134, rfl, rfl, H⟩
            refine ax_iast (pc' := 138) dX12_clause_137 (sh_r_75 _ (ac_lt hj128)) (ac_in (by decide)) (sh_n_75 _ (ac_lt hj128)) rfl ?_
            refine ax_goto (tgt := 271) dX12_clause_138 (by decide) ?_
            refine ax_aload_n (pc' := 272) dX12_clause_271 rfl rfl ?_
            refine ax_bipush (pc' := 274) (v := (59 : Int32)) dX12_clause_272 (by decide) rfl ?_
            refine ay_V1 (pc' := 277) (ce' := 0) (sl' := 0) (mc2 := 0) (ms2 := 0) (I2 := i_X12_sign) dX12_clause_274 ml_X12_179 sh_69 (by decide) rfl rfl rfl rfl rfl rfl rfl rfl rfl (ac_M.imp (o_X12_sign _ (59 : Int32) H) ?_)
            rintro _ _ ⟨s274, rfl, rfl, H⟩
            refine ax_aload_n (pc' := 278) dX12_clause_277 rfl rfl ?_
            refine ax_getR (pc' := 281) dX12_clause_278 fl_X12_20 sh_69 rfl rfl rfl ?_
            refine ax_iload_n (pc' := 282) dX12_clause_281 rfl rfl ?_
            refine ax_dup2 (pc' := 283) dX12_clause_282 rfl rfl rfl ?_
            obtain ⟨hj283, H⟩ := H
            refine ax_iald (pc' := 284) dX12_clause_283 sh_72 hj283 rfl rfl ?_
            refine ax_aload_n (pc' := 285) dX12_clause_284 rfl rfl ?_
            refine ax_getI (pc' := 288) dX12_clause_285 fl_X12_120 sh_69 rfl rfl rfl ?_
            refine ax_if_ne (pc' := 291) (tgt := 295) dX12_clause_288 (by decide) rfl (fun hc288 => ?_) (fun hc288 => ?_)
            · have H := H.1 hc288
              refine ax_iconst (pc' := 296) (v := (0 : Int32)) dX12_clause_295 (by decide) rfl ?_
              refine ax_iadd (pc' := 297) dX12_clause_296 rfl ?_
              obtain ⟨hj297, H⟩ := H
              refine ax_iast (pc' := 298) dX12_clause_297 sh_72 hj297 rfl rfl ?_
              exact ax_vret dX12_clause_298 rfl rfl rfl ⟨_, rfl, rfl, H⟩
            · have H := H.2 hc288
              refine ax_iconst (pc' := 292) (v := (1 : Int32)) dX12_clause_291 (by decide) rfl ?_
              refine ax_goto (tgt := 296) dX12_clause_292 (by decide) ?_
              refine ax_iadd (pc' := 297) dX12_clause_296 rfl ?_
              obtain ⟨hj297, H⟩ := H
              refine ax_iast (pc' := 298) dX12_clause_297 sh_72 hj297 rfl rfl ?_
              exact ax_vret dX12_clause_298 rfl rfl rfl ⟨_, rfl, rfl, H⟩
          have H := H.2
          by_cases hk83_1 : r1 = (1 : Int32)
          · have H := H.1 hk83_1
            refine ax_lookup (off := (58)) (tgt := 141) dX12_clause_83 (by decide) (by rw [hk83_1]; decide) (by decide) ?_
            refine ax_aload_n (pc' := 142) dX12_clause_141 rfl rfl ?_
            refine ax_getR (pc' := 145) dX12_clause_142 fl_X12_34 sh_69 rfl rfl rfl ?_
            refine ax_iload_n (pc' := 146) dX12_clause_145 rfl rfl ?_
            obtain ⟨hj146, H⟩ := H
            refine ax_aald (pc' := 147) dX12_clause_146 sh_88 hj146 rfl rfl ?_
            refine ax_iconst (pc' := 148) (v := (0 : Int32)) dX12_clause_147 (by decide) rfl ?_
            refine ax_aload_n (pc' := 149) dX12_clause_148 rfl rfl ?_
            refine ax_iconst (pc' := 150) (v := (0 : Int32)) dX12_clause_149 (by decide) rfl ?_
            refine ax_aload_n (pc' := 151) dX12_clause_150 rfl rfl ?_
            refine ax_getR (pc' := 154) dX12_clause_151 fl_X12_20 sh_69 rfl rfl rfl ?_
            refine ax_iconst (pc' := 155) (v := (0 : Int32)) dX12_clause_154 (by decide) rfl ?_
            refine ax_iald (pc' := 156) dX12_clause_155 sh_72 (ac_in (by decide)) rfl rfl ?_
            refine ax_iconst (pc' := 157) (v := (1 : Int32)) dX12_clause_156 (by decide) rfl ?_
            refine ax_isub (pc' := 158) dX12_clause_157 rfl ?_
            refine ay_V2 (pc' := 161) (ce' := 0) (sl' := 0) (mc2 := 0) (ms2 := 0) (I2 := i_X12_number) dX12_clause_158 ml_X12_166 sh_69 (by decide) rfl rfl rfl rfl rfl rfl rfl rfl rfl (ac_M.imp (o_X12_number _ (0 : Int32) (((ac_u s62 69 7 ((s62 69 7) + (1 : Int32))) 72 (0 : Int32).toNatClampNeg) - (1 : Int32)) H) ?_)
            rintro _ _ ⟨r158, s158, rfl, rfl, H⟩
            refine ax_iast (pc' := 162) dX12_clause_161 (sh_r_89 _ (ac_lt hj146)) (ac_in (by decide)) (sh_n_89 _ (ac_lt hj146)) rfl ?_
            refine ax_aload_n (pc' := 163) dX12_clause_162 rfl rfl ?_
            refine ax_getR (pc' := 166) dX12_clause_163 fl_X12_34 sh_69 rfl rfl rfl ?_
            refine ax_iload_n (pc' := 167) dX12_clause_166 rfl rfl ?_
            obtain ⟨hj167, H⟩ := H
            refine ax_aald (pc' := 168) dX12_clause_167 sh_88 hj167 rfl rfl ?_
            refine ax_iconst (pc' := 169) (v := (1 : Int32)) dX12_clause_168 (by decide) rfl ?_
            refine ax_aload_n (pc' := 170) dX12_clause_169 rfl rfl ?_
            refine ax_aload_n (pc' := 171) dX12_clause_170 rfl rfl ?_
            refine ax_getR (pc' := 174) dX12_clause_171 fl_X12_34 sh_69 rfl rfl rfl ?_
            refine ax_iload_n (pc' := 175) dX12_clause_174 rfl rfl ?_
            obtain ⟨hj175, H⟩ := H
            refine ax_aald (pc' := 176) dX12_clause_175 sh_88 hj175 rfl rfl ?_
            refine ax_iconst (pc' := 177) (v := (0 : Int32)) dX12_clause_176 (by decide) rfl ?_
            refine ax_iald (pc' := 178) dX12_clause_177 (sh_r_89 _ (ac_lt hj175)) (ac_in (by decide)) (sh_n_89 _ (ac_lt hj175)) rfl ?_
            refine ax_aload_n (pc' := 179) dX12_clause_178 rfl rfl ?_
            refine ax_getR (pc' := 182) dX12_clause_179 fl_X12_20 sh_69 rfl rfl rfl ?_
            refine ax_iconst (pc' := 183) (v := (0 : Int32)) dX12_clause_182 (by decide) rfl ?_
            refine ax_iald (pc' := 184) dX12_clause_183 sh_72 (ac_in (by decide)) rfl rfl ?_
            refine ay_V2 (pc' := 187) (ce' := 0) (sl' := 0) (mc2 := 0) (ms2 := 0) (I2 := i_X12_another) dX12_clause_184 ml_X12_176 sh_69 (by decide) rfl rfl rfl rfl rfl rfl rfl rfl rfl (ac_M.imp (o_X12_another _ ((ac_u s158 (89 + ((ac_u s62 69 7 ((s62 69 7) + (1 : Int32))) 72 r1.toNatClampNeg).toNatClampNeg) (0 : Int32).toNatClampNeg r158) (89 + ((ac_u s62 69 7 ((s62 69 7) + (1 : Int32))) 72 r1.toNatClampNeg).toNatClampNeg) (0 : Int32).toNatClampNeg) ((ac_u s158 (89 + ((ac_u s62 69 7 ((s62 69 7) + (1 : Int32))) 72 r1.toNatClampNeg).toNatClampNeg) (0 : Int32).toNatClampNeg r158) 72 (0 : Int32).toNatClampNeg) H) ?_)
            rintro _ _ ⟨r184, s184, rfl, rfl, H⟩
            refine ax_iast (pc' := 188) dX12_clause_187 (sh_r_89 _ (ac_lt hj167)) (ac_in (by decide)) (sh_n_89 _ (ac_lt hj167)) rfl ?_
            refine ax_aload_n (pc' := 189) dX12_clause_188 rfl rfl ?_
            refine ax_getR (pc' := 192) dX12_clause_189 fl_X12_34 sh_69 rfl rfl rfl ?_
            refine ax_iload_n (pc' := 193) dX12_clause_192 rfl rfl ?_
            obtain ⟨hj193, H⟩ := H
            refine ax_aald (pc' := 194) dX12_clause_193 sh_88 hj193 rfl rfl ?_
            refine ax_iconst (pc' := 195) (v := (2 : Int32)) dX12_clause_194 (by decide) rfl ?_
            refine ax_aload_n (pc' := 196) dX12_clause_195 rfl rfl ?_
            refine ax_iconst (pc' := 197) (v := (0 : Int32)) dX12_clause_196 (by decide) rfl ?_
            refine ax_iconst (pc' := 198) (v := (5 : Int32)) dX12_clause_197 (by decide) rfl ?_
            refine ay_V2 (pc' := 201) (ce' := 0) (sl' := 0) (mc2 := 0) (ms2 := 0) (I2 := i_X12_number) dX12_clause_198 ml_X12_166 sh_69 (by decide) rfl rfl rfl rfl rfl rfl rfl rfl rfl (ac_M.imp (o_X12_number _ (0 : Int32) (5 : Int32) H) ?_)
            rintro _ _ ⟨r198, s198, rfl, rfl, H⟩
            refine ax_iast (pc' := 202) dX12_clause_201 (sh_r_89 _ (ac_lt hj193)) (ac_in (by decide)) (sh_n_89 _ (ac_lt hj193)) rfl ?_
            refine ax_aload_n (pc' := 203) dX12_clause_202 rfl rfl ?_
            refine ax_getR (pc' := 206) dX12_clause_203 fl_X12_34 sh_69 rfl rfl rfl ?_
            refine ax_iload_n (pc' := 207) dX12_clause_206 rfl rfl ?_
            obtain ⟨hj207, H⟩ := H
            refine ax_aald (pc' := 208) dX12_clause_207 sh_88 hj207 rfl rfl ?_
            refine ax_iconst (pc' := 209) (v := (3 : Int32)) dX12_clause_208 (by decide) rfl ?_
            refine ax_aload_n (pc' := 210) dX12_clause_209 rfl rfl ?_
            refine ax_iconst (pc' := 211) (v := (1 : Int32)) dX12_clause_210 (by decide) rfl ?_
            refine ax_bipush (pc' := 213) (v := (30 : Int32)) dX12_clause_211 (by decide) rfl ?_
            refine ay_V2 (pc' := 216) (ce' := 0) (sl' := 0) (mc2 := 0) (ms2 := 0) (I2 := i_X12_number) dX12_clause_213 ml_X12_166 sh_69 (by decide) rfl rfl rfl rfl rfl rfl rfl rfl rfl (ac_M.imp (o_X12_number _ (1 : Int32) (30 : Int32) H) ?_)
            rintro _ _ ⟨r213, s213, rfl, rfl, H⟩
            refine ax_iast (pc' := 217) dX12_clause_216 (sh_r_89 _ (ac_lt hj207)) (ac_in (by decide)) (sh_n_89 _ (ac_lt hj207)) rfl ?_
            refine ax_goto (tgt := 271) dX12_clause_217 (by decide) ?_
            refine ax_aload_n (pc' := 272) dX12_clause_271 rfl rfl ?_
            refine ax_bipush (pc' := 274) (v := (59 : Int32)) dX12_clause_272 (by decide) rfl ?_
            refine ay_V1 (pc' := 277) (ce' := 0) (sl' := 0) (mc2 := 0) (ms2 := 0) (I2 := i_X12_sign) dX12_clause_274 ml_X12_179 sh_69 (by decide) rfl rfl rfl rfl rfl rfl rfl rfl rfl (ac_M.imp (o_X12_sign _ (59 : Int32) H) ?_)
            rintro _ _ ⟨s274, rfl, rfl, H⟩
            refine ax_aload_n (pc' := 278) dX12_clause_277 rfl rfl ?_
            refine ax_getR (pc' := 281) dX12_clause_278 fl_X12_20 sh_69 rfl rfl rfl ?_
            refine ax_iload_n (pc' := 282) dX12_clause_281 rfl rfl ?_
            refine ax_dup2 (pc' := 283) dX12_clause_282 rfl rfl rfl ?_
            obtain ⟨hj283, H⟩ := H
            refine ax_iald (pc' := 284) dX12_clause_283 sh_72 hj283 rfl rfl ?_
            refine ax_aload_n (pc' := 285) dX12_clause_284 rfl rfl ?_
            refine ax_getI (pc' := 288) dX12_clause_285 fl_X12_120 sh_69 rfl rfl rfl ?_
            refine ax_if_ne (pc' := 291) (tgt := 295) dX12_clause_288 (by decide) rfl (fun hc288 => ?_) (fun hc288 => ?_)
            · have H := H.1 hc288
              refine ax_iconst (pc' := 296) (v := (0 : Int32)) dX12_clause_295 (by decide) rfl ?_
              refine ax_iadd (pc' := 297) dX12_clause_296 rfl ?_
              obtain ⟨hj297, H⟩ := H
              refine ax_iast (pc' := 298) dX12_clause_297 sh_72 hj297 rfl rfl ?_
              exact ax_vret dX12_clause_298 rfl rfl rfl ⟨_, rfl, rfl, H⟩
            · have H := H.2 hc288
              refine ax_iconst (pc' := 292) (v := (1 : Int32)) dX12_clause_291 (by decide) rfl ?_
              refine ax_goto (tgt := 296) dX12_clause_292 (by decide) ?_
              refine ax_iadd (pc' := 297) dX12_clause_296 rfl ?_
              obtain ⟨hj297, H⟩ := H
              refine ax_iast (pc' := 298) dX12_clause_297 sh_72 hj297 rfl rfl ?_
              exact ax_vret dX12_clause_298 rfl rfl rfl ⟨_, rfl, rfl, H⟩
          have H := H.2
          have H := H ⟨hk83_0, hk83_1⟩
          refine ax_lookup (off := (137)) (tgt := 220) dX12_clause_83 (by decide) (ac_look_X12_clause_83 _ hk83_0 hk83_1) (by decide) ?_
          refine ax_aload_n (pc' := 221) dX12_clause_220 rfl rfl ?_
          refine ax_getR (pc' := 224) dX12_clause_221 fl_X12_40 sh_69 rfl rfl rfl ?_
          refine ax_iload_n (pc' := 225) dX12_clause_224 rfl rfl ?_
          obtain ⟨hj225, H⟩ := H
          refine ax_aald (pc' := 226) dX12_clause_225 sh_115 hj225 rfl rfl ?_
          refine ax_iconst (pc' := 227) (v := (0 : Int32)) dX12_clause_226 (by decide) rfl ?_
          refine ax_aload_n (pc' := 228) dX12_clause_227 rfl rfl ?_
          refine ax_iconst (pc' := 229) (v := (0 : Int32)) dX12_clause_228 (by decide) rfl ?_
          refine ax_iconst (pc' := 230) (v := (5 : Int32)) dX12_clause_229 (by decide) rfl ?_
          refine ay_V2 (pc' := 233) (ce' := 0) (sl' := 0) (mc2 := 0) (ms2 := 0) (I2 := i_X12_number) dX12_clause_230 ml_X12_166 sh_69 (by decide) rfl rfl rfl rfl rfl rfl rfl rfl rfl (ac_M.imp (o_X12_number _ (0 : Int32) (5 : Int32) H) ?_)
          rintro _ _ ⟨r230, s230, rfl, rfl, H⟩
          refine ax_iast (pc' := 234) dX12_clause_233 (sh_r_116 _ (ac_lt hj225)) (ac_in (by decide)) (sh_n_116 _ (ac_lt hj225)) rfl ?_
          refine ax_aload_n (pc' := 235) dX12_clause_234 rfl rfl ?_
          refine ax_getR (pc' := 238) dX12_clause_235 fl_X12_40 sh_69 rfl rfl rfl ?_
          refine ax_iload_n (pc' := 239) dX12_clause_238 rfl rfl ?_
          obtain ⟨hj239, H⟩ := H
          refine ax_aald (pc' := 240) dX12_clause_239 sh_115 hj239 rfl rfl ?_
          refine ax_iconst (pc' := 241) (v := (1 : Int32)) dX12_clause_240 (by decide) rfl ?_
          refine ax_aload_n (pc' := 242) dX12_clause_241 rfl rfl ?_
          refine ax_aload_n (pc' := 243) dX12_clause_242 rfl rfl ?_
          refine ax_getR (pc' := 246) dX12_clause_243 fl_X12_40 sh_69 rfl rfl rfl ?_
          refine ax_iload_n (pc' := 247) dX12_clause_246 rfl rfl ?_
          obtain ⟨hj247, H⟩ := H
          refine ax_aald (pc' := 248) dX12_clause_247 sh_115 hj247 rfl rfl ?_
          refine ax_iconst (pc' := 249) (v := (0 : Int32)) dX12_clause_248 (by decide) rfl ?_
          refine ax_iald (pc' := 250) dX12_clause_249 (sh_r_116 _ (ac_lt hj247)) (ac_in (by decide)) (sh_n_116 _ (ac_lt hj247)) rfl ?_
          refine ax_bipush (pc' := 252) (v := (6 : Int32)) dX12_clause_250 (by decide) rfl ?_
          refine ay_V2 (pc' := 255) (ce' := 0) (sl' := 0) (mc2 := 0) (ms2 := 0) (I2 := i_X12_another) dX12_clause_252 ml_X12_176 sh_69 (by decide) rfl rfl rfl rfl rfl rfl rfl rfl rfl (ac_M.imp (o_X12_another _ ((ac_u s230 (116 + ((ac_u s62 69 7 ((s62 69 7) + (1 : Int32))) 72 r1.toNatClampNeg).toNatClampNeg) (0 : Int32).toNatClampNeg r230) (116 + ((ac_u s62 69 7 ((s62 69 7) + (1 : Int32))) 72 r1.toNatClampNeg).toNatClampNeg) (0 : Int32).toNatClampNeg) (6 : Int32) H) ?_)
          rintro _ _ ⟨r252, s252, rfl, rfl, H⟩
          refine ax_iast (pc' := 256) dX12_clause_255 (sh_r_116 _ (ac_lt hj239)) (ac_in (by decide)) (sh_n_116 _ (ac_lt hj239)) rfl ?_
          refine ax_aload_n (pc' := 257) dX12_clause_256 rfl rfl ?_
          refine ax_getR (pc' := 260) dX12_clause_257 fl_X12_40 sh_69 rfl rfl rfl ?_
          refine ax_iload_n (pc' := 261) dX12_clause_260 rfl rfl ?_
          obtain ⟨hj261, H⟩ := H
          refine ax_aald (pc' := 262) dX12_clause_261 sh_115 hj261 rfl rfl ?_
          refine ax_iconst (pc' := 263) (v := (2 : Int32)) dX12_clause_262 (by decide) rfl ?_
          refine ax_aload_n (pc' := 264) dX12_clause_263 rfl rfl ?_
          refine ax_iconst (pc' := 265) (v := (1 : Int32)) dX12_clause_264 (by decide) rfl ?_
          refine ax_bipush (pc' := 267) (v := (9 : Int32)) dX12_clause_265 (by decide) rfl ?_
          refine ay_V2 (pc' := 270) (ce' := 0) (sl' := 0) (mc2 := 0) (ms2 := 0) (I2 := i_X12_number) dX12_clause_267 ml_X12_166 sh_69 (by decide) rfl rfl rfl rfl rfl rfl rfl rfl rfl (ac_M.imp (o_X12_number _ (1 : Int32) (9 : Int32) H) ?_)
          rintro _ _ ⟨r267, s267, rfl, rfl, H⟩
          refine ax_iast (pc' := 271) dX12_clause_270 (sh_r_116 _ (ac_lt hj261)) (ac_in (by decide)) (sh_n_116 _ (ac_lt hj261)) rfl ?_
          refine ax_aload_n (pc' := 272) dX12_clause_271 rfl rfl ?_
          refine ax_bipush (pc' := 274) (v := (59 : Int32)) dX12_clause_272 (by decide) rfl ?_
          refine ay_V1 (pc' := 277) (ce' := 0) (sl' := 0) (mc2 := 0) (ms2 := 0) (I2 := i_X12_sign) dX12_clause_274 ml_X12_179 sh_69 (by decide) rfl rfl rfl rfl rfl rfl rfl rfl rfl (ac_M.imp (o_X12_sign _ (59 : Int32) H) ?_)
          rintro _ _ ⟨s274, rfl, rfl, H⟩
          refine ax_aload_n (pc' := 278) dX12_clause_277 rfl rfl ?_
          refine ax_getR (pc' := 281) dX12_clause_278 fl_X12_20 sh_69 rfl rfl rfl ?_
          refine ax_iload_n (pc' := 282) dX12_clause_281 rfl rfl ?_
          refine ax_dup2 (pc' := 283) dX12_clause_282 rfl rfl rfl ?_
          obtain ⟨hj283, H⟩ := H
          refine ax_iald (pc' := 284) dX12_clause_283 sh_72 hj283 rfl rfl ?_
          refine ax_aload_n (pc' := 285) dX12_clause_284 rfl rfl ?_
          refine ax_getI (pc' := 288) dX12_clause_285 fl_X12_120 sh_69 rfl rfl rfl ?_
          refine ax_if_ne (pc' := 291) (tgt := 295) dX12_clause_288 (by decide) rfl (fun hc288 => ?_) (fun hc288 => ?_)
          · have H := H.1 hc288
            refine ax_iconst (pc' := 296) (v := (0 : Int32)) dX12_clause_295 (by decide) rfl ?_
            refine ax_iadd (pc' := 297) dX12_clause_296 rfl ?_
            obtain ⟨hj297, H⟩ := H
            refine ax_iast (pc' := 298) dX12_clause_297 sh_72 hj297 rfl rfl ?_
            exact ax_vret dX12_clause_298 rfl rfl rfl ⟨_, rfl, rfl, H⟩
          · have H := H.2 hc288
            refine ax_iconst (pc' := 292) (v := (1 : Int32)) dX12_clause_291 (by decide) rfl ?_
            refine ax_goto (tgt := 296) dX12_clause_292 (by decide) ?_
            refine ax_iadd (pc' := 297) dX12_clause_296 rfl ?_
            obtain ⟨hj297, H⟩ := H
            refine ax_iast (pc' := 298) dX12_clause_297 sh_72 hj297 rfl rfl ?_
            exact ax_vret dX12_clause_298 rfl rfl rfl ⟨_, rfl, rfl, H⟩
        · have H := H.2 hc57
          exact ax_vret dX12_clause_60 rfl rfl rfl ⟨_, rfl, rfl, H⟩
  · have H := H.2 hc7
    refine ax_aload_n (pc' := 11) dX12_clause_10 rfl rfl ?_
    refine ax_iconst (pc' := 12) (v := (1 : Int32)) dX12_clause_11 (by decide) rfl ?_
    refine ax_aload_n (pc' := 13) dX12_clause_12 rfl rfl ?_
    refine ax_getI (pc' := 16) dX12_clause_13 fl_X12_113 sh_69 rfl rfl rfl ?_
    refine ay_V2 (pc' := 19) (ce' := 0) (sl' := 0) (mc2 := 0) (ms2 := 0) (I2 := i_X12_wrong) dX12_clause_16 ml_X12_133 sh_69 (by decide) rfl rfl rfl rfl rfl rfl rfl rfl rfl (ac_M.imp (o_X12_wrong _ (1 : Int32) (s1 69 4) H) ?_)
    rintro _ _ ⟨s16, rfl, rfl, H⟩
    refine ax_goto (tgt := 53) dX12_clause_19 (by decide) ?_
    refine ax_aload_n (pc' := 54) dX12_clause_53 rfl rfl ?_
    refine ax_getI (pc' := 57) dX12_clause_54 fl_X12_120 sh_69 rfl rfl rfl ?_
    refine ax_if_eq (pc' := 60) (tgt := 61) dX12_clause_57 (by decide) rfl (fun hc57 => ?_) (fun hc57 => ?_)
    · have H := H.1 hc57
      refine ax_aload_n (pc' := 62) dX12_clause_61 rfl rfl ?_
      refine ay_V0 (pc' := 65) (ce' := 0) (sl' := 0) (mc2 := 0) (ms2 := 0) (I2 := i_X12_skipWord) dX12_clause_62 ml_X12_157 sh_69 (by decide) rfl rfl rfl rfl rfl rfl rfl rfl rfl (ac_M.imp (o_X12_skipWord _  H) ?_)
      rintro _ _ ⟨s62, rfl, rfl, H⟩
      refine ax_aload_n (pc' := 66) dX12_clause_65 rfl rfl ?_
      refine ax_dup (pc' := 67) dX12_clause_66 rfl rfl ?_
      refine ax_getI (pc' := 70) dX12_clause_67 fl_X12_160 sh_69 rfl rfl rfl ?_
      refine ax_iconst (pc' := 71) (v := (1 : Int32)) dX12_clause_70 (by decide) rfl ?_
      refine ax_iadd (pc' := 72) dX12_clause_71 rfl ?_
      refine ax_putI (pc' := 75) dX12_clause_72 fp_X12_160 sh_69 rfl rfl rfl ?_
      refine ax_aload_n (pc' := 76) dX12_clause_75 rfl rfl ?_
      refine ax_getR (pc' := 79) dX12_clause_76 fl_X12_20 sh_69 rfl rfl rfl ?_
      refine ax_iload_n (pc' := 80) dX12_clause_79 rfl rfl ?_
      obtain ⟨hj80, H⟩ := H
      refine ax_iald (pc' := 81) dX12_clause_80 sh_72 hj80 rfl rfl ?_
      refine ax_istore_n (pc' := 82) dX12_clause_81 rfl rfl rfl ?_
      refine ax_iload_n (pc' := 83) dX12_clause_82 rfl rfl ?_
      by_cases hk83_0 : r1 = (0 : Int32)
      · have H := H.1 hk83_0
        refine ax_lookup (off := (25)) (tgt := 108) dX12_clause_83 (by decide) (by rw [hk83_0]; decide) (by decide) ?_
        refine ax_aload_n (pc' := 109) dX12_clause_108 rfl rfl ?_
        refine ax_getR (pc' := 112) dX12_clause_109 fl_X12_28 sh_69 rfl rfl rfl ?_
        refine ax_iload_n (pc' := 113) dX12_clause_112 rfl rfl ?_
        obtain ⟨hj113, H⟩ := H
        refine ax_aald (pc' := 114) dX12_clause_113 sh_74 hj113 rfl rfl ?_
        refine ax_iconst (pc' := 115) (v := (0 : Int32)) dX12_clause_114 (by decide) rfl ?_
        refine ax_aload_n (pc' := 116) dX12_clause_115 rfl rfl ?_
        refine ax_iconst (pc' := 117) (v := (0 : Int32)) dX12_clause_116 (by decide) rfl ?_
        refine ax_bipush (pc' := 119) (v := (99 : Int32)) dX12_clause_117 (by decide) rfl ?_
        refine ay_V2 (pc' := 122) (ce' := 0) (sl' := 0) (mc2 := 0) (ms2 := 0) (I2 := i_X12_number) dX12_clause_119 ml_X12_166 sh_69 (by decide) rfl rfl rfl rfl rfl rfl rfl rfl rfl (ac_M.imp (o_X12_number _ (0 : Int32) (99 : Int32) H) ?_)
        rintro _ _ ⟨r119, s119, rfl, rfl, H⟩
        refine ax_iast (pc' := 123) dX12_clause_122 (sh_r_75 _ (ac_lt hj113)) (ac_in (by decide)) (sh_n_75 _ (ac_lt hj113)) rfl ?_
        refine ax_aload_n (pc' := 124) dX12_clause_123 rfl rfl ?_
        refine ax_getR (pc' := 127) dX12_clause_124 fl_X12_28 sh_69 rfl rfl rfl ?_
        refine ax_iload_n (pc' := 128) dX12_clause_127 rfl rfl ?_
        obtain ⟨hj128, H⟩ := H
        refine ax_aald (pc' := 129) dX12_clause_128 sh_74 hj128 rfl rfl ?_
        refine ax_iconst (pc' := 130) (v := (1 : Int32)) dX12_clause_129 (by decide) rfl ?_
        refine ax_aload_n (pc' := 131) dX12_clause_130 rfl rfl ?_
        refine ax_iconst (pc' := 132) (v := (0 : Int32)) dX12_clause_131 (by decide) rfl ?_
        refine ax_bipush (pc' := 134) (v := (9 : Int32)) dX12_clause_132 (by decide) rfl ?_
        refine ay_V2 (pc' := 137) (ce' := 0) (sl' := 0) (mc2 := 0) (ms2 := 0) (I2 := i_X12_number) dX12_clause_134 ml_X12_166 sh_69 (by decide) rfl rfl rfl rfl rfl rfl rfl rfl rfl (ac_M.imp (o_X12_number _ (0 : Int32) (9 : Int32) H) ?_)
        rintro _ _ ⟨r134, s134, rfl, rfl, H⟩
        refine ax_iast (pc' := 138) dX12_clause_137 (sh_r_75 _ (ac_lt hj128)) (ac_in (by decide)) (sh_n_75 _ (ac_lt hj128)) rfl ?_
        refine ax_goto (tgt := 271) dX12_clause_138 (by decide) ?_
        refine ax_aload_n (pc' := 272) dX12_clause_271 rfl rfl ?_
        refine ax_bipush (pc' := 274) (v := (59 : Int32)) dX12_clause_272 (by decide) rfl ?_
        refine ay_V1 (pc' := 277) (ce' := 0) (sl' := 0) (mc2 := 0) (ms2 := 0) (I2 := i_X12_sign) dX12_clause_274 ml_X12_179 sh_69 (by decide) rfl rfl rfl rfl rfl rfl rfl rfl rfl (ac_M.imp (o_X12_sign _ (59 : Int32) H) ?_)
        rintro _ _ ⟨s274, rfl, rfl, H⟩
        refine ax_aload_n (pc' := 278) dX12_clause_277 rfl rfl ?_
        refine ax_getR (pc' := 281) dX12_clause_278 fl_X12_20 sh_69 rfl rfl rfl ?_
        refine ax_iload_n (pc' := 282) dX12_clause_281 rfl rfl ?_
        refine ax_dup2 (pc' := 283) dX12_clause_282 rfl rfl rfl ?_
        obtain ⟨hj283, H⟩ := H
        refine ax_iald (pc' := 284) dX12_clause_283 sh_72 hj283 rfl rfl ?_
        refine ax_aload_n (pc' := 285) dX12_clause_284 rfl rfl ?_
        refine ax_getI (pc' := 288) dX12_clause_285 fl_X12_120 sh_69 rfl rfl rfl ?_
        refine ax_if_ne (pc' := 291) (tgt := 295) dX12_clause_288 (by decide) rfl (fun hc288 => ?_) (fun hc288 => ?_)
        · have H := H.1 hc288
          refine ax_iconst (pc' := 296) (v := (0 : Int32)) dX12_clause_295 (by decide) rfl ?_
          refine ax_iadd (pc' := 297) dX12_clause_296 rfl ?_
          obtain ⟨hj297, H⟩ := H
          refine ax_iast (pc' := 298) dX12_clause_297 sh_72 hj297 rfl rfl ?_
          exact ax_vret dX12_clause_298 rfl rfl rfl ⟨_, rfl, rfl, H⟩
        · have H := H.2 hc288
          refine ax_iconst (pc' := 292) (v := (1 : Int32)) dX12_clause_291 (by decide) rfl ?_
          refine ax_goto (tgt := 296) dX12_clause_292 (by decide) ?_
          refine ax_iadd (pc' := 297) dX12_clause_296 rfl ?_
          obtain ⟨hj297, H⟩ := H
          refine ax_iast (pc' := 298) dX12_clause_297 sh_72 hj297 rfl rfl ?_
          exact ax_vret dX12_clause_298 rfl rfl rfl ⟨_, rfl, rfl, H⟩
      have H := H.2
      by_cases hk83_1 : r1 = (1 : Int32)
      · have H := H.1 hk83_1
        refine ax_lookup (off := (58)) (tgt := 141) dX12_clause_83 (by decide) (by rw [hk83_1]; decide) (by decide) ?_
        refine ax_aload_n (pc' := 142) dX12_clause_141 rfl rfl ?_
        refine ax_getR (pc' := 145) dX12_clause_142 fl_X12_34 sh_69 rfl rfl rfl ?_
        refine ax_iload_n (pc' := 146) dX12_clause_145 rfl rfl ?_
        obtain ⟨hj146, H⟩ := H
        refine ax_aald (pc' := 147) dX12_clause_146 sh_88 hj146 rfl rfl ?_
        refine ax_iconst (pc' := 148) (v := (0 : Int32)) dX12_clause_147 (by decide) rfl ?_
        refine ax_aload_n (pc' := 149) dX12_clause_148 rfl rfl ?_
        refine ax_iconst (pc' := 150) (v := (0 : Int32)) dX12_clause_149 (by decide) rfl ?_
        refine ax_aload_n (pc' := 151) dX12_clause_150 rfl rfl ?_
        refine ax_getR (pc' := 154) dX12_clause_151 fl_X12_20 sh_69 rfl rfl rfl ?_
        refine ax_iconst (pc' := 155) (v := (0 : Int32)) dX12_clause_154 (by decide) rfl ?_
        refine ax_iald (pc' := 156) dX12_clause_155 sh_72 (ac_in (by decide)) rfl rfl ?_
        refine ax_iconst (pc' := 157) (v := (1 : Int32)) dX12_clause_156 (by decide) rfl ?_
        refine ax_isub (pc' := 158) dX12_clause_157 rfl ?_
        refine ay_V2 (pc' := 161) (ce' := 0) (sl' := 0) (mc2 := 0) (ms2 := 0) (I2 := i_X12_number) dX12_clause_158 ml_X12_166 sh_69 (by decide) rfl rfl rfl rfl rfl rfl rfl rfl rfl (ac_M.imp (o_X12_number _ (0 : Int32) (((ac_u s62 69 7 ((s62 69 7) + (1 : Int32))) 72 (0 : Int32).toNatClampNeg) - (1 : Int32)) H) ?_)
        rintro _ _ ⟨r158, s158, rfl, rfl, H⟩
        refine ax_iast (pc' := 162) dX12_clause_161 (sh_r_89 _ (ac_lt hj146)) (ac_in (by decide)) (sh_n_89 _ (ac_lt hj146)) rfl ?_
        refine ax_aload_n (pc' := 163) dX12_clause_162 rfl rfl ?_
        refine ax_getR (pc' := 166) dX12_clause_163 fl_X12_34 sh_69 rfl rfl rfl ?_
        refine ax_iload_n (pc' := 167) dX12_clause_166 rfl rfl ?_
        obtain ⟨hj167, H⟩ := H
        refine ax_aald (pc' := 168) dX12_clause_167 sh_88 hj167 rfl rfl ?_
        refine ax_iconst (pc' := 169) (v := (1 : Int32)) dX12_clause_168 (by decide) rfl ?_
        refine ax_aload_n (pc' := 170) dX12_clause_169 rfl rfl ?_
        refine ax_aload_n (pc' := 171) dX12_clause_170 rfl rfl ?_
        refine ax_getR (pc' := 174) dX12_clause_171 fl_X12_34 sh_69 rfl rfl rfl ?_
        refine ax_iload_n (pc' := 175) dX12_clause_174 rfl rfl ?_
        obtain ⟨hj175, H⟩ := H
        refine ax_aald (pc' := 176) dX12_clause_175 sh_88 hj175 rfl rfl ?_
        refine ax_iconst (pc' := 177) (v := (0 : Int32)) dX12_clause_176 (by decide) rfl ?_
        refine ax_iald (pc' := 178) dX12_clause_177 (sh_r_89 _ (ac_lt hj175)) (ac_in (by decide)) (sh_n_89 _ (ac_lt hj175)) rfl ?_
        refine ax_aload_n (pc' := 179) dX12_clause_178 rfl rfl ?_
        refine ax_getR (pc' := 182) dX12_clause_179 fl_X12_20 sh_69 rfl rfl rfl ?_
        refine ax_iconst (pc' := 183) (v := (0 : Int32)) dX12_clause_182 (by decide) rfl ?_
        refine ax_iald (pc' := 184) dX12_clause_183 sh_72 (ac_in (by decide)) rfl rfl ?_
        refine ay_V2 (pc' := 187) (ce' := 0) (sl' := 0) (mc2 := 0) (ms2 := 0) (I2 := i_X12_another) dX12_clause_184 ml_X12_176 sh_69 (by decide) rfl rfl rfl rfl rfl rfl rfl rfl rfl (ac_M.imp (o_X12_another _ ((ac_u s158 (89 + ((ac_u s62 69 7 ((s62 69 7) + (1 : Int32))) 72 r1.toNatClampNeg).toNatClampNeg) (0 : Int32).toNatClampNeg r158) (89 + ((ac_u s62 69 7 ((s62 69 7) + (1 : Int32))) 72 r1.toNatClampNeg).toNatClampNeg) (0 : Int32).toNatClampNeg) ((ac_u s158 (89 + ((ac_u s62 69 7 ((s62 69 7) + (1 : Int32))) 72 r1.toNatClampNeg).toNatClampNeg) (0 : Int32).toNatClampNeg r158) 72 (0 : Int32).toNatClampNeg) H) ?_)
        rintro _ _ ⟨r184, s184, rfl, rfl, H⟩
        refine ax_iast (pc' := 188) dX12_clause_187 (sh_r_89 _ (ac_lt hj167)) (ac_in (by decide)) (sh_n_89 _ (ac_lt hj167)) rfl ?_
        refine ax_aload_n (pc' := 189) dX12_clause_188 rfl rfl ?_
        refine ax_getR (pc' := 192) dX12_clause_189 fl_X12_34 sh_69 rfl rfl rfl ?_
        refine ax_iload_n (pc' := 193) dX12_clause_192 rfl rfl ?_
        obtain ⟨hj193, H⟩ := H
        refine ax_aald (pc' := 194) dX12_clause_193 sh_88 hj193 rfl rfl ?_
        refine ax_iconst (pc' := 195) (v := (2 : Int32)) dX12_clause_194 (by decide) rfl ?_
        refine ax_aload_n (pc' := 196) dX12_clause_195 rfl rfl ?_
        refine ax_iconst (pc' := 197) (v := (0 : Int32)) dX12_clause_196 (by decide) rfl ?_
        refine ax_iconst (pc' := 198) (v := (5 : Int32)) dX12_clause_197 (by decide) rfl ?_
        refine ay_V2 (pc' := 201) (ce' := 0) (sl' := 0) (mc2 := 0) (ms2 := 0) (I2 := i_X12_number) dX12_clause_198 ml_X12_166 sh_69 (by decide) rfl rfl rfl rfl rfl rfl rfl rfl rfl (ac_M.imp (o_X12_number _ (0 : Int32) (5 : Int32) H) ?_)
        rintro _ _ ⟨r198, s198, rfl, rfl, H⟩
        refine ax_iast (pc' := 202) dX12_clause_201 (sh_r_89 _ (ac_lt hj193)) (ac_in (by decide)) (sh_n_89 _ (ac_lt hj193)) rfl ?_
        refine ax_aload_n (pc' := 203) dX12_clause_202 rfl rfl ?_
        refine ax_getR (pc' := 206) dX12_clause_203 fl_X12_34 sh_69 rfl rfl rfl ?_
        refine ax_iload_n (pc' := 207) dX12_clause_206 rfl rfl ?_
        obtain ⟨hj207, H⟩ := H
        refine ax_aald (pc' := 208) dX12_clause_207 sh_88 hj207 rfl rfl ?_
        refine ax_iconst (pc' := 209) (v := (3 : Int32)) dX12_clause_208 (by decide) rfl ?_
        refine ax_aload_n (pc' := 210) dX12_clause_209 rfl rfl ?_
        refine ax_iconst (pc' := 211) (v := (1 : Int32)) dX12_clause_210 (by decide) rfl ?_
        refine ax_bipush (pc' := 213) (v := (30 : Int32)) dX12_clause_211 (by decide) rfl ?_
        refine ay_V2 (pc' := 216) (ce' := 0) (sl' := 0) (mc2 := 0) (ms2 := 0) (I2 := i_X12_number) dX12_clause_213 ml_X12_166 sh_69 (by decide) rfl rfl rfl rfl rfl rfl rfl rfl rfl (ac_M.imp (o_X12_number _ (1 : Int32) (30 : Int32) H) ?_)
        rintro _ _ ⟨r213, s213, rfl, rfl, H⟩
        refine ax_iast (pc' := 217) dX12_clause_216 (sh_r_89 _ (ac_lt hj207)) (ac_in (by decide)) (sh_n_89 _ (ac_lt hj207)) rfl ?_
        refine ax_goto (tgt := 271) dX12_clause_217 (by decide) ?_
        refine ax_aload_n (pc' := 272) dX12_clause_271 rfl rfl ?_
        refine ax_bipush (pc' := 274) (v := (59 : Int32)) dX12_clause_272 (by decide) rfl ?_
        refine ay_V1 (pc' := 277) (ce' := 0) (sl' := 0) (mc2 := 0) (ms2 := 0) (I2 := i_X12_sign) dX12_clause_274 ml_X12_179 sh_69 (by decide) rfl rfl rfl rfl rfl rfl rfl rfl rfl (ac_M.imp (o_X12_sign _ (59 : Int32) H) ?_)
        rintro _ _ ⟨s274, rfl, rfl, H⟩
        refine ax_aload_n (pc' := 278) dX12_clause_277 rfl rfl ?_
        refine ax_getR (pc' := 281) dX12_clause_278 fl_X12_20 sh_69 rfl rfl rfl ?_
        refine ax_iload_n (pc' := 282) dX12_clause_281 rfl rfl ?_
        refine ax_dup2 (pc' := 283) dX12_clause_282 rfl rfl rfl ?_
        obtain ⟨hj283, H⟩ := H
        refine ax_iald (pc' := 284) dX12_clause_283 sh_72 hj283 rfl rfl ?_
        refine ax_aload_n (pc' := 285) dX12_clause_284 rfl rfl ?_
        refine ax_getI (pc' := 288) dX12_clause_285 fl_X12_120 sh_69 rfl rfl rfl ?_
        refine ax_if_ne (pc' := 291) (tgt := 295) dX12_clause_288 (by decide) rfl (fun hc288 => ?_) (fun hc288 => ?_)
        · have H := H.1 hc288
          refine ax_iconst (pc' := 296) (v := (0 : Int32)) dX12_clause_295 (by decide) rfl ?_
          refine ax_iadd (pc' := 297) dX12_clause_296 rfl ?_
          obtain ⟨hj297, H⟩ := H
          refine ax_iast (pc' := 298) dX12_clause_297 sh_72 hj297 rfl rfl ?_
          exact ax_vret dX12_clause_298 rfl rfl rfl ⟨_, rfl, rfl, H⟩
        · have H := H.2 hc288
          refine ax_iconst (pc' := 292) (v := (1 : Int32)) dX12_clause_291 (by decide) rfl ?_
          refine ax_goto (tgt := 296) dX12_clause_292 (by decide) ?_
          refine ax_iadd (pc' := 297) dX12_clause_296 rfl ?_
          obtain ⟨hj297, H⟩ := H
          refine ax_iast (pc' := 298) dX12_clause_297 sh_72 hj297 rfl rfl ?_
          exact ax_vret dX12_clause_298 rfl rfl rfl ⟨_, rfl, rfl, H⟩
      have H := H.2
      have H := H ⟨hk83_0, hk83_1⟩
      refine ax_lookup (off := (137)) (tgt := 220) dX12_clause_83 (by decide) (ac_look_X12_clause_83 _ hk83_0 hk83_1) (by decide) ?_
      refine ax_aload_n (pc' := 221) dX12_clause_220 rfl rfl ?_
      refine ax_getR (pc' := 224) dX12_clause_221 fl_X12_40 sh_69 rfl rfl rfl ?_
      refine ax_iload_n (pc' := 225) dX12_clause_224 rfl rfl ?_
      obtain ⟨hj225, H⟩ := H
      refine ax_aald (pc' := 226) dX12_clause_225 sh_115 hj225 rfl rfl ?_
      refine ax_iconst (pc' := 227) (v := (0 : Int32)) dX12_clause_226 (by decide) rfl ?_
      refine ax_aload_n (pc' := 228) dX12_clause_227 rfl rfl ?_
      refine ax_iconst (pc' := 229) (v := (0 : Int32)) dX12_clause_228 (by decide) rfl ?_
      refine ax_iconst (pc' := 230) (v := (5 : Int32)) dX12_clause_229 (by decide) rfl ?_
      refine ay_V2 (pc' := 233) (ce' := 0) (sl' := 0) (mc2 := 0) (ms2 := 0) (I2 := i_X12_number) dX12_clause_230 ml_X12_166 sh_69 (by decide) rfl rfl rfl rfl rfl rfl rfl rfl rfl (ac_M.imp (o_X12_number _ (0 : Int32) (5 : Int32) H) ?_)
      rintro _ _ ⟨r230, s230, rfl, rfl, H⟩
      refine ax_iast (pc' := 234) dX12_clause_233 (sh_r_116 _ (ac_lt hj225)) (ac_in (by decide)) (sh_n_116 _ (ac_lt hj225)) rfl ?_
      refine ax_aload_n (pc' := 235) dX12_clause_234 rfl rfl ?_
      refine ax_getR (pc' := 238) dX12_clause_235 fl_X12_40 sh_69 rfl rfl rfl ?_
      refine ax_iload_n (pc' := 239) dX12_clause_238 rfl rfl ?_
      obtain ⟨hj239, H⟩ := H
      refine ax_aald (pc' := 240) dX12_clause_239 sh_115 hj239 rfl rfl ?_
      refine ax_iconst (pc' := 241) (v := (1 : Int32)) dX12_clause_240 (by decide) rfl ?_
      refine ax_aload_n (pc' := 242) dX12_clause_241 rfl rfl ?_
      refine ax_aload_n (pc' := 243) dX12_clause_242 rfl rfl ?_
      refine ax_getR (pc' := 246) dX12_clause_243 fl_X12_40 sh_69 rfl rfl rfl ?_
      refine ax_iload_n (pc' := 247) dX12_clause_246 rfl rfl ?_
      obtain ⟨hj247, H⟩ := H
      refine ax_aald (pc' := 248) dX12_clause_247 sh_115 hj247 rfl rfl ?_
      refine ax_iconst (pc' := 249) (v := (0 : Int32)) dX12_clause_248 (by decide) rfl ?_
      refine ax_iald (pc' := 250) dX12_clause_249 (sh_r_116 _ (ac_lt hj247)) (ac_in (by decide)) (sh_n_116 _ (ac_lt hj247)) rfl ?_
      refine ax_bipush (pc' := 252) (v := (6 : Int32)) dX12_clause_250 (by decide) rfl ?_
      refine ay_V2 (pc' := 255) (ce' := 0) (sl' := 0) (mc2 := 0) (ms2 := 0) (I2 := i_X12_another) dX12_clause_252 ml_X12_176 sh_69 (by decide) rfl rfl rfl rfl rfl rfl rfl rfl rfl (ac_M.imp (o_X12_another _ ((ac_u s230 (116 + ((ac_u s62 69 7 ((s62 69 7) + (1 : Int32))) 72 r1.toNatClampNeg).toNatClampNeg) (0 : Int32).toNatClampNeg r230) (116 + ((ac_u s62 69 7 ((s62 69 7) + (1 : Int32))) 72 r1.toNatClampNeg).toNatClampNeg) (0 : Int32).toNatClampNeg) (6 : Int32) H) ?_)
      rintro _ _ ⟨r252, s252, rfl, rfl, H⟩
      refine ax_iast (pc' := 256) dX12_clause_255 (sh_r_116 _ (ac_lt hj239)) (ac_in (by decide)) (sh_n_116 _ (ac_lt hj239)) rfl ?_
      refine ax_aload_n (pc' := 257) dX12_clause_256 rfl rfl ?_
      refine ax_getR (pc' := 260) dX12_clause_257 fl_X12_40 sh_69 rfl rfl rfl ?_
      refine ax_iload_n (pc' := 261) dX12_clause_260 rfl rfl ?_
      obtain ⟨hj261, H⟩ := H
      refine ax_aald (pc' := 262) dX12_clause_261 sh_115 hj261 rfl rfl ?_
      refine ax_iconst (pc' := 263) (v := (2 : Int32)) dX12_clause_262 (by decide) rfl ?_
      refine ax_aload_n (pc' := 264) dX12_clause_263 rfl rfl ?_
      refine ax_iconst (pc' := 265) (v := (1 : Int32)) dX12_clause_264 (by decide) rfl ?_
      refine ax_bipush (pc' := 267) (v := (9 : Int32)) dX12_clause_265 (by decide) rfl ?_
      refine ay_V2 (pc' := 270) (ce' := 0) (sl' := 0) (mc2 := 0) (ms2 := 0) (I2 := i_X12_number) dX12_clause_267 ml_X12_166 sh_69 (by decide) rfl rfl rfl rfl rfl rfl rfl rfl rfl (ac_M.imp (o_X12_number _ (1 : Int32) (9 : Int32) H) ?_)
      rintro _ _ ⟨r267, s267, rfl, rfl, H⟩
      refine ax_iast (pc' := 271) dX12_clause_270 (sh_r_116 _ (ac_lt hj261)) (ac_in (by decide)) (sh_n_116 _ (ac_lt hj261)) rfl ?_
      refine ax_aload_n (pc' := 272) dX12_clause_271 rfl rfl ?_
      refine ax_bipush (pc' := 274) (v := (59 : Int32)) dX12_clause_272 (by decide) rfl ?_
      refine ay_V1 (pc' := 277) (ce' := 0) (sl' := 0) (mc2 := 0) (ms2 := 0) (I2 := i_X12_sign) dX12_clause_274 ml_X12_179 sh_69 (by decide) rfl rfl rfl rfl rfl rfl rfl rfl rfl (ac_M.imp (o_X12_sign _ (59 : Int32) H) ?_)
      rintro _ _ ⟨s274, rfl, rfl, H⟩
      refine ax_aload_n (pc' := 278) dX12_clause_277 rfl rfl ?_
      refine ax_getR (pc' := 281) dX12_clause_278 fl_X12_20 sh_69 rfl rfl rfl ?_
      refine ax_iload_n (pc' := 282) dX12_clause_281 rfl rfl ?_
      refine ax_dup2 (pc' := 283) dX12_clause_282 rfl rfl rfl ?_
      obtain ⟨hj283, H⟩ := H
      refine ax_iald (pc' := 284) dX12_clause_283 sh_72 hj283 rfl rfl ?_
      refine ax_aload_n (pc' := 285) dX12_clause_284 rfl rfl ?_
      refine ax_getI (pc' := 288) dX12_clause_285 fl_X12_120 sh_69 rfl rfl rfl ?_
      refine ax_if_ne (pc' := 291) (tgt := 295) dX12_clause_288 (by decide) rfl (fun hc288 => ?_) (fun hc288 => ?_)
      · have H := H.1 hc288
        refine ax_iconst (pc' := 296) (v := (0 : Int32)) dX12_clause_295 (by decide) rfl ?_
        refine ax_iadd (pc' := 297) dX12_clause_296 rfl ?_
        obtain ⟨hj297, H⟩ := H
        refine ax_iast (pc' := 298) dX12_clause_297 sh_72 hj297 rfl rfl ?_
        exact ax_vret dX12_clause_298 rfl rfl rfl ⟨_, rfl, rfl, H⟩
      · have H := H.2 hc288
        refine ax_iconst (pc' := 292) (v := (1 : Int32)) dX12_clause_291 (by decide) rfl ?_
        refine ax_goto (tgt := 296) dX12_clause_292 (by decide) ?_
        refine ax_iadd (pc' := 297) dX12_clause_296 rfl ?_
        obtain ⟨hj297, H⟩ := H
        refine ax_iast (pc' := 298) dX12_clause_297 sh_72 hj297 rfl rfl ?_
        exact ax_vret dX12_clause_298 rfl rfl rfl ⟨_, rfl, rfl, H⟩
    · have H := H.2 hc57
      exact ax_vret dX12_clause_60 rfl rfl rfl ⟨_, rfl, rfl, H⟩
