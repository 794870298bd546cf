theorem ol_X12_isUnseen_80 {g : ac_G} {τ : Nat → Nat → Int64} (d : Nat) (p1 : Int32) (p2 : Int32) (p3 : Int32) {Q : Int32 → ac_m → Prop}    {x4 : Int32} {s : ac_m} (H : l_X12_isUnseen_80 p1 p2 p3 Q    x4 s) : ac_X g i_X12_isUnseen (d + 6) 0 0 (liI τ Q) 0 0 80 [some (.ref 69), none, none, none, some (.int x4)] [] (false, 586, SH, s, τ) := by
  refine H (fun x4 s => ac_X g i_X12_isUnseen (d + 6) 0 0 (liI τ Q) 0 0 80 [some (.ref 69), none, none, none, some (.int x4)] [] (false, 586, SH, s, τ)) ?_
  intro x4 s H
  refine ax_iload (pc' := 82) dX12_isUnseen_80 rfl rfl ?_
  refine ax_aload_n (pc' := 83) dX12_isUnseen_82 rfl rfl ?_
  refine ax_getI (pc' := 86) dX12_isUnseen_83 fl_X12_207 sh_69 rfl rfl rfl ?_
  refine ax_icmp_ge (pc' := 89) (tgt := 123) dX12_isUnseen_86 (by decide) rfl (fun hc86 => ?_) (fun hc86 => ?_)
  · have H := H.1 hc86
    refine ax_iconst (pc' := 124) (v := (1 : Int32)) dX12_isUnseen_123 (by decide) rfl ?_
    exact ax_zret dX12_isUnseen_124 rfl rfl rfl rfl ⟨_, _, rfl, rfl, H⟩
  · have H := H.2 hc86
    refine ax_aload_n (pc' := 90) dX12_isUnseen_89 rfl rfl ?_
    refine ax_getR (pc' := 93) dX12_isUnseen_90 fl_X12_85 sh_69 rfl rfl rfl ?_
    refine ax_aload_n (pc' := 94) dX12_isUnseen_93 rfl rfl ?_
    refine ax_getR (pc' := 97) dX12_isUnseen_94 fl_X12_52 sh_69 rfl rfl rfl ?_
    refine ax_iload (pc' := 99) dX12_isUnseen_97 rfl rfl ?_
    obtain ⟨hj99, H⟩ := H
    refine ax_aald (pc' := 100) dX12_isUnseen_99 sh_459 hj99 rfl rfl ?_
    refine ax_iconst (pc' := 101) (v := (0 : Int32)) dX12_isUnseen_100 (by decide) rfl ?_
    refine ax_iald (pc' := 102) dX12_isUnseen_101 (sh_r_460 _ (ac_lt hj99)) (ac_in (by decide)) (sh_n_460 _ (ac_lt hj99)) rfl ?_
    obtain ⟨hj102, H⟩ := H
    refine ax_iald (pc' := 103) dX12_isUnseen_102 sh_581 hj102 rfl rfl ?_
    refine ax_aload_n (pc' := 104) dX12_isUnseen_103 rfl rfl ?_
    refine ax_getR (pc' := 107) dX12_isUnseen_104 fl_X12_52 sh_69 rfl rfl rfl ?_
    refine ax_iload (pc' := 109) dX12_isUnseen_107 rfl rfl ?_
    obtain ⟨hj109, H⟩ := H
    refine ax_aald (pc' := 110) dX12_isUnseen_109 sh_459 hj109 rfl rfl ?_
    refine ax_iconst (pc' := 111) (v := (1 : Int32)) dX12_isUnseen_110 (by decide) rfl ?_
    refine ax_iald (pc' := 112) dX12_isUnseen_111 (sh_r_460 _ (ac_lt hj109)) (ac_in (by decide)) (sh_n_460 _ (ac_lt hj109)) rfl ?_
    refine ax_icmp_eq (pc' := 115) (tgt := 117) dX12_isUnseen_112 (by decide) rfl (fun hc112 => ?_) (fun hc112 => ?_)
    · have H := H.1 hc112
      refine ax_iinc (pc' := 120) (v := (x4 + (1 : Int32))) dX12_isUnseen_117 rfl rfl rfl rfl rfl ?_
      refine ax_goto (tgt := 80) dX12_isUnseen_120 (by decide) ?_
      exact H
    · have H := H.2 hc112
      refine ax_iconst (pc' := 116) (v := (0 : Int32)) dX12_isUnseen_115 (by decide) rfl ?_
      exact ax_zret dX12_isUnseen_116 rfl rfl rfl rfl ⟨_, _, rfl, rfl, H⟩
theorem ol_X12_isUnseen_40 {g : ac_G} {τ : Nat → Nat → Int64} (d : Nat) (p1 : Int32) (p2 : Int32) (p3 : Int32) {Q : Int32 → ac_m → Prop}  (f1 : Int32)  {x4 : Int32} {s : ac_m} (H : l_X12_isUnseen_40 p1 p2 p3 Q  f1  x4 s) : ac_X g i_X12_isUnseen (d + 6) 0 0 (liI τ Q) 0 0 40 [some (.ref 69), some (.int f1), none, none, some (.int x4)] [] (false, 586, SH, s, τ) := by
  refine H (fun x4 s => ac_X g i_X12_isUnseen (d + 6) 0 0 (liI τ Q) 0 0 40 [some (.ref 69), some (.int f1), none, none, some (.int x4)] [] (false, 586, SH, s, τ)) ?_
  intro x4 s H
  refine ax_iload (pc' := 42) dX12_isUnseen_40 rfl rfl ?_
  refine ax_bipush (pc' := 44) (v := (12 : Int32)) dX12_isUnseen_42 (by decide) rfl ?_
  refine ax_icmp_gt (pc' := 47) (tgt := 77) dX12_isUnseen_44 (by decide) rfl (fun hc44 => ?_) (fun hc44 => ?_)
  · have H := H.1 hc44
    refine ax_iconst (pc' := 78) (v := (0 : Int32)) dX12_isUnseen_77 (by decide) rfl ?_
    refine ax_istore (pc' := 80) dX12_isUnseen_78 rfl rfl rfl ?_
    refine ax_drop 1 rfl ?_
    refine ol_X12_isUnseen_80 d p1 p2 p3      H
  · have H := H.2 hc44
    refine ax_aload_n (pc' := 48) dX12_isUnseen_47 rfl rfl ?_
    refine ax_aload_n (pc' := 49) dX12_isUnseen_48 rfl rfl ?_
    refine ax_getR (pc' := 52) dX12_isUnseen_49 fl_X12_70 sh_69 rfl rfl rfl ?_
    refine ay_V1 (pc' := 55) (ce' := 0) (sl' := 0) (mc2 := 0) (ms2 := 0) (I2 := i_X12_dayEnds) dX12_isUnseen_52 ml_X12_314 sh_69 (by decide) rfl rfl rfl rfl rfl rfl rfl rfl rfl (ac_M.imp (o_X12_dayEnds _ 557 sh_557 rfl H) ?_)
    rintro _ _ ⟨s52, rfl, rfl, H⟩
    refine ax_aload_n (pc' := 56) dX12_isUnseen_55 rfl rfl ?_
    refine ax_getR (pc' := 59) dX12_isUnseen_56 fl_X12_85 sh_69 rfl rfl rfl ?_
    refine ax_iload (pc' := 61) dX12_isUnseen_59 rfl rfl ?_
    refine ax_aload_n (pc' := 62) dX12_isUnseen_61 rfl rfl ?_
    refine ax_getR (pc' := 65) dX12_isUnseen_62 fl_X12_70 sh_69 rfl rfl rfl ?_
    refine ax_bipush (pc' := 67) (v := (39 : Int32)) dX12_isUnseen_65 (by decide) rfl ?_
    refine ax_iload_n (pc' := 68) dX12_isUnseen_67 rfl rfl ?_
    refine ax_iadd (pc' := 69) dX12_isUnseen_68 rfl ?_
    obtain ⟨hj69, H⟩ := H
    refine ax_iald (pc' := 70) dX12_isUnseen_69 sh_557 hj69 rfl rfl ?_
    obtain ⟨hj70, H⟩ := H
    refine ax_iast (pc' := 71) dX12_isUnseen_70 sh_581 hj70 rfl rfl ?_
    refine ax_iinc (pc' := 74) (v := (x4 + (1 : Int32))) dX12_isUnseen_71 rfl rfl rfl rfl rfl ?_
    refine ax_goto (tgt := 40) dX12_isUnseen_74 (by decide) ?_
    exact H
theorem o_X12_isUnseen {g : ac_G} {τ : Nat → Nat → Int64} (d : Nat) (p1 : Int32) (p2 : Int32) (p3 : Int32) {Q : Int32 → ac_m → Prop} {s : ac_m} (H : w_X12_isUnseen p1 p2 p3 Q s) : ac_M g i_X12_isUnseen (d + 6) 0 0 [.ref 69, .int p1, .int p2, .int p3] (false, 586, SH, s, τ) (liI τ Q) := by
  refine ac_ofX (by decide +kernel) rfl rfl rfl ?_
  refine ax_aload_n (pc' := 1) dX12_isUnseen_0 rfl rfl ?_
  refine ax_getR (pc' := 4) dX12_isUnseen_1 fl_X12_67 sh_69 rfl rfl rfl ?_
  refine ax_aload_n (pc' := 5) dX12_isUnseen_4 rfl rfl ?_
  refine ax_getR (pc' := 8) dX12_isUnseen_5 fl_X12_70 sh_69 rfl rfl rfl ?_
  refine ay_S2 (pc' := 11) (ce' := 0) (sl' := 0) (mc2 := 0) (ms2 := 0) (I2 := i_X12_copies) dX12_isUnseen_8 ml_X12_331 rfl rfl rfl rfl rfl rfl rfl rfl (ac_M.imp (o_X12_copies _ 556 557 sh_556 rfl sh_557 rfl H) ?_)
  rintro _ _ ⟨s8, rfl, rfl, H⟩
  refine ax_aload_n (pc' := 12) dX12_isUnseen_11 rfl rfl ?_
  refine ax_getR (pc' := 15) dX12_isUnseen_12 fl_X12_37 sh_69 rfl rfl rfl ?_
  refine ax_bipush (pc' := 17) (v := (12 : Int32)) dX12_isUnseen_15 (by decide) rfl ?_
  refine ax_aald (pc' := 18) dX12_isUnseen_17 sh_101 (ac_in (by decide)) rfl rfl ?_
  refine ax_iconst (pc' := 19) (v := (2 : Int32)) dX12_isUnseen_18 (by decide) rfl ?_
  refine ax_iload_n (pc' := 20) dX12_isUnseen_19 rfl rfl ?_
  refine ax_iast (pc' := 21) dX12_isUnseen_20 (sh_r_102 _ (by decide)) (ac_in (by decide)) (sh_n_102 _ (by decide)) rfl ?_
  refine ax_aload_n (pc' := 22) dX12_isUnseen_21 rfl rfl ?_
  refine ax_getR (pc' := 25) dX12_isUnseen_22 fl_X12_70 sh_69 rfl rfl rfl ?_
  refine ax_bipush (pc' := 27) (v := (12 : Int32)) dX12_isUnseen_25 (by decide) rfl ?_
  refine ax_iload_n (pc' := 28) dX12_isUnseen_27 rfl rfl ?_
  refine ax_iast (pc' := 29) dX12_isUnseen_28 sh_557 (ac_in (by decide)) rfl rfl ?_
  refine ax_aload_n (pc' := 30) dX12_isUnseen_29 rfl rfl ?_
  refine ax_getR (pc' := 33) dX12_isUnseen_30 fl_X12_70 sh_69 rfl rfl rfl ?_
  refine ax_bipush (pc' := 35) (v := (38 : Int32)) dX12_isUnseen_33 (by decide) rfl ?_
  refine ax_iload_n (pc' := 36) dX12_isUnseen_35 rfl rfl ?_
  refine ax_iast (pc' := 37) dX12_isUnseen_36 sh_557 (ac_in (by decide)) rfl rfl ?_
  refine ax_iconst (pc' := 38) (v := (1 : Int32)) dX12_isUnseen_37 (by decide) rfl ?_
  refine ax_istore (pc' := 40) dX12_isUnseen_38 rfl rfl rfl ?_
  refine ax_drop 2 rfl ?_
  refine ax_drop 3 rfl ?_
  refine ol_X12_isUnseen_40 d p1 p2 p3  _    H
theorem ol_X12_unseen_70 {g : ac_G} {τ : Nat → Nat → Int64} (d : Nat) (p1 : Int32) (p2 : Int32) {Q : Int32 → ac_m → Prop} {K120 : Int32 → Int32 → ac_m → Prop} (f1 : Int32) (f2 : Int32) (f5 : Int32)  {x3 : Int32} {x4 : Int32} {x6 : Int32} {s : ac_m} (hK120 : ∀ (x3 : Int32) (x4 : Int32) (s : ac_m), K120 x3 x4 s → ac_X g i_X12_unseen (d + 7) 0 0 (liI τ Q) 0 0 120 [some (.ref 69), some (.int f1), some (.int f2), some (.int x3), some (.int x4), some (.int f5), none] [] (false, 586, SH, s, τ)) (H : l_X12_unseen_70 p1 p2 Q K120 f1 f2 f5  x3 x4 x6 s) : ac_X g i_X12_unseen (d + 7) 0 0 (liI τ Q) 0 0 70 [some (.ref 69), some (.int f1), some (.int f2), some (.int x3), some (.int x4), some (.int f5), some (.int x6)] [] (false, 586, SH, s, τ) := by
  refine H (fun x3 x4 x6 s => ac_X g i_X12_unseen (d + 7) 0 0 (liI τ Q) 0 0 70 [some (.ref 69), some (.int f1), some (.int f2), some (.int x3), some (.int x4), some (.int f5), some (.int x6)] [] (false, 586, SH, s, τ)) ?_
  intro x3 x4 x6 s H
  refine ax_iload (pc' := 72) dX12_unseen_70 rfl rfl ?_
  refine ax_bipush (pc' := 74) (v := (30 : Int32)) dX12_unseen_72 (by decide) rfl ?_
  refine ax_icmp_gt (pc' := 77) (tgt := 120) dX12_unseen_74 (by decide) rfl (fun hc74 => ?_) (fun hc74 => ?_)
  · have H := H.1 hc74
    refine ax_drop 6 rfl ?_
    exact hK120 _ _ _ H
  · have H := H.2 hc74
    refine ax_aload_n (pc' := 78) dX12_unseen_77 rfl rfl ?_
    refine ax_iload_n (pc' := 79) dX12_unseen_78 rfl rfl ?_
    refine ax_iload (pc' := 81) dX12_unseen_79 rfl rfl ?_
    refine ax_iload (pc' := 83) dX12_unseen_81 rfl rfl ?_
    refine ay_V3 (pc' := 86) (ce' := 0) (sl' := 0) (mc2 := 0) (ms2 := 0) (I2 := i_X12_isUnseen) dX12_unseen_83 ml_X12_372 sh_69 (by decide) rfl rfl rfl rfl rfl rfl rfl rfl rfl (ac_M.imp (o_X12_isUnseen _ f1 f5 x6 H) ?_)
    rintro _ _ ⟨r83, s83, rfl, rfl, H⟩
    refine ax_if_ne (pc' := 89) (tgt := 92) dX12_unseen_86 (by decide) rfl (fun hc86 => ?_) (fun hc86 => ?_)
    · have H := H.1 hc86
      refine ax_iload_n (pc' := 93) dX12_unseen_92 rfl rfl ?_
      refine ax_if_ne (pc' := 96) (tgt := 107) dX12_unseen_93 (by decide) rfl (fun hc93 => ?_) (fun hc93 => ?_)
      · have H := H.1 hc93
        refine ax_iload (pc' := 109) dX12_unseen_107 rfl rfl ?_
        refine ax_istore (pc' := 111) dX12_unseen_109 rfl rfl rfl ?_
        refine ax_iinc (pc' := 114) (v := (x3 + (1 : Int32))) dX12_unseen_111 rfl rfl rfl rfl rfl ?_
        refine ax_iinc (pc' := 117) (v := (x6 + (1 : Int32))) dX12_unseen_114 rfl rfl rfl rfl rfl ?_
        refine ax_goto (tgt := 70) dX12_unseen_117 (by decide) ?_
        exact H
      · have H := H.2 hc93
        refine ax_bipush (pc' := 98) (v := (100 : Int32)) dX12_unseen_96 (by decide) rfl ?_
        refine ax_iload (pc' := 100) dX12_unseen_98 rfl rfl ?_
        refine ax_imul (pc' := 101) dX12_unseen_100 rfl ?_
        refine ax_iload (pc' := 103) dX12_unseen_101 rfl rfl ?_
        refine ax_iadd (pc' := 104) dX12_unseen_103 rfl ?_
        refine ax_goto (tgt := 109) dX12_unseen_104 (by decide) ?_
        refine ax_istore (pc' := 111) dX12_unseen_109 rfl rfl rfl ?_
        refine ax_iinc (pc' := 114) (v := (x3 + (1 : Int32))) dX12_unseen_111 rfl rfl rfl rfl rfl ?_
        refine ax_iinc (pc' := 117) (v := (x6 + (1 : Int32))) dX12_unseen_114 rfl rfl rfl rfl rfl ?_
        refine ax_goto (tgt := 70) dX12_unseen_117 (by decide) ?_
        exact H
    · have H := H.2 hc86
      refine ax_goto (tgt := 114) dX12_unseen_89 (by decide) ?_
      refine ax_iinc (pc' := 117) (v := (x6 + (1 : Int32))) dX12_unseen_114 rfl rfl rfl rfl rfl ?_
      refine ax_goto (tgt := 70) dX12_unseen_117 (by decide) ?_
      exact H
theorem ol_X12_unseen_60 {g : ac_G} {τ : Nat → Nat → Int64} (d : Nat) (p1 : Int32) (p2 : Int32) {Q : Int32 → ac_m → Prop}  (f1 : Int32) (f2 : Int32)  {x3 : Int32} {x4 : Int32} {x5 : Int32} {s : ac_m} (H : l_X12_unseen_60 p1 p2 Q  f1 f2  x3 x4 x5 s) : ac_X g i_X12_unseen (d + 7) 0 0 (liI τ Q) 0 0 60 [some (.ref 69), some (.int f1), some (.int f2), some (.int x3), some (.int x4), some (.int x5), none] [] (false, 586, SH, s, τ) := by
  refine H (fun x3 x4 x5 s => ac_X g i_X12_unseen (d + 7) 0 0 (liI τ Q) 0 0 60 [some (.ref 69), some (.int f1), some (.int f2), some (.int x3), some (.int x4), some (.int x5), none] [] (false, 586, SH, s, τ)) ?_
  intro x3 x4 x5 s H
  refine ax_iload (pc' := 62) dX12_unseen_60 rfl rfl ?_
  refine ax_bipush (pc' := 64) (v := (6 : Int32)) dX12_unseen_62 (by decide) rfl ?_
  refine ax_icmp_ge (pc' := 67) (tgt := 126) dX12_unseen_64 (by decide) rfl (fun hc64 => ?_) (fun hc64 => ?_)
  · have H := H.1 hc64
    refine ax_iload_n (pc' := 127) dX12_unseen_126 rfl rfl ?_
    refine ax_if_ne (pc' := 130) (tgt := 134) dX12_unseen_127 (by decide) rfl (fun hc127 => ?_) (fun hc127 => ?_)
    · have H := H.1 hc127
      refine ax_iload (pc' := 136) dX12_unseen_134 rfl rfl ?_
      exact ax_iret dX12_unseen_136 rfl rfl rfl ⟨_, _, rfl, rfl, H⟩
    · have H := H.2 hc127
      refine ax_iload_n (pc' := 131) dX12_unseen_130 rfl rfl ?_
      refine ax_goto (tgt := 136) dX12_unseen_131 (by decide) ?_
      exact ax_iret dX12_unseen_136 rfl rfl rfl ⟨_, _, rfl, rfl, H⟩
  · have H := H.2 hc64
    refine ax_iconst (pc' := 68) (v := (1 : Int32)) dX12_unseen_67 (by decide) rfl ?_
    refine ax_istore (pc' := 70) dX12_unseen_68 rfl rfl rfl ?_
    refine ol_X12_unseen_70 d p1 p2  _ _ _   ?_ H
    · intro z70_3 z70_4 sk70 H
      refine ax_iinc (pc' := 123) (v := (x5 + (1 : Int32))) dX12_unseen_120 rfl rfl rfl rfl rfl ?_
      refine ax_goto (tgt := 60) dX12_unseen_123 (by decide) ?_
      exact H
theorem o_X12_unseen {g : ac_G} {τ : Nat → Nat → Int64} (d : Nat) (p1 : Int32) (p2 : Int32) {Q : Int32 → ac_m → Prop} {s : ac_m} (H : w_X12_unseen p1 p2 Q s) : ac_M g i_X12_unseen (d + 7) 0 0 [.ref 69, .int p1, .int p2] (false, 586, SH, s, τ) (liI τ Q) := by
  refine ac_ofX (by decide +kernel) rfl rfl rfl ?_
  refine ax_aload_n (pc' := 1) dX12_unseen_0 rfl rfl ?_
  refine ax_iconst (pc' := 2) (v := (0 : Int32)) dX12_unseen_1 (by decide) rfl ?_
  refine ax_putI (pc' := 5) dX12_unseen_2 fp_X12_104 sh_69 rfl rfl rfl ?_
  refine ax_aload_n (pc' := 6) dX12_unseen_5 rfl rfl ?_
  refine ax_aload_n (pc' := 7) dX12_unseen_6 rfl rfl ?_
  refine ax_iload_n (pc' := 8) dX12_unseen_7 rfl rfl ?_
  refine ay_V1 (pc' := 11) (ce' := 0) (sl' := 0) (mc2 := 0) (ms2 := 0) (I2 := i_X12_isFolk) dX12_unseen_8 ml_X12_348 sh_69 (by decide) rfl rfl rfl rfl rfl rfl rfl rfl rfl (ac_M.imp (o_X12_isFolk _ p1 H) ?_)
  rintro _ _ ⟨r8, s8, rfl, rfl, H⟩
  refine ax_if_ne (pc' := 14) (tgt := 18) dX12_unseen_11 (by decide) rfl (fun hc11 => ?_) (fun hc11 => ?_)
  · have H := H.1 hc11
    refine ax_iconst (pc' := 19) (v := (0 : Int32)) dX12_unseen_18 (by decide) rfl ?_
    refine ax_iconst (pc' := 20) (v := (1 : Int32)) dX12_unseen_19 (by decide) rfl ?_
    refine ax_iconst (pc' := 21) (v := (0 : Int32)) dX12_unseen_20 (by decide) rfl ?_
    refine ay_V3 (pc' := 24) (ce' := 0) (sl' := 0) (mc2 := 0) (ms2 := 0) (I2 := i_X12_bad) dX12_unseen_21 ml_X12_183 sh_69 (by decide) rfl rfl rfl rfl rfl rfl rfl rfl rfl (ac_M.imp (o_X12_bad _ (0 : Int32) (1 : Int32) (0 : Int32) H) ?_)
    rintro _ _ ⟨r21, s21, rfl, rfl, H⟩
    refine ax_if_ne (pc' := 27) (tgt := 50) dX12_unseen_24 (by decide) rfl (fun hc24 => ?_) (fun hc24 => ?_)
    · have H := H.1 hc24
      refine ax_iconst (pc' := 51) (v := (0 : Int32)) dX12_unseen_50 (by decide) rfl ?_
      exact ax_iret dX12_unseen_51 rfl rfl rfl ⟨_, _, rfl, rfl, H⟩
    · have H := H.2 hc24
      refine ax_aload_n (pc' := 28) dX12_unseen_27 rfl rfl ?_
      refine ax_iload_n (pc' := 29) dX12_unseen_28 rfl rfl ?_
      refine ax_iconst (pc' := 30) (v := (0 : Int32)) dX12_unseen_29 (by decide) rfl ?_
      refine ax_iconst (pc' := 31) (v := (1 : Int32)) dX12_unseen_30 (by decide) rfl ?_
      refine ay_S3 (pc' := 34) (ce' := 0) (sl' := 0) (mc2 := 0) (ms2 := 0) (I2 := i_X12_in) dX12_unseen_31 ml_X12_138 rfl rfl rfl rfl rfl rfl rfl rfl (ac_M.imp (o_X12_in _ p2 (0 : Int32) (1 : Int32) H) ?_)
      rintro _ _ ⟨r31, s31, rfl, rfl, H⟩
      refine ax_if_ne (pc' := 37) (tgt := 41) dX12_unseen_34 (by decide) rfl (fun hc34 => ?_) (fun hc34 => ?_)
      · have H := H.1 hc34
        refine ax_iconst (pc' := 42) (v := (0 : Int32)) dX12_unseen_41 (by decide) rfl ?_
        refine ax_iconst (pc' := 43) (v := (2 : Int32)) dX12_unseen_42 (by decide) rfl ?_
        refine ax_iconst (pc' := 44) (v := (1 : Int32)) dX12_unseen_43 (by decide) rfl ?_
        refine ay_V3 (pc' := 47) (ce' := 0) (sl' := 0) (mc2 := 0) (ms2 := 0) (I2 := i_X12_bad) dX12_unseen_44 ml_X12_183 sh_69 (by decide) rfl rfl rfl rfl rfl rfl rfl rfl rfl (ac_M.imp (o_X12_bad _ (0 : Int32) (2 : Int32) (1 : Int32) H) ?_)
        rintro _ _ ⟨r44, s44, rfl, rfl, H⟩
        refine ax_if_eq (pc' := 50) (tgt := 52) dX12_unseen_47 (by decide) rfl (fun hc47 => ?_) (fun hc47 => ?_)
        · have H := H.1 hc47
          refine ax_iconst (pc' := 53) (v := (0 : Int32)) dX12_unseen_52 (by decide) rfl ?_
          refine ax_istore_n (pc' := 54) dX12_unseen_53 rfl rfl rfl ?_
          refine ax_iconst (pc' := 55) (v := (-1 : Int32)) dX12_unseen_54 (by decide) rfl ?_
          refine ax_istore (pc' := 57) dX12_unseen_55 rfl rfl rfl ?_
          refine ax_iconst (pc' := 58) (v := (0 : Int32)) dX12_unseen_57 (by decide) rfl ?_
          refine ax_istore (pc' := 60) dX12_unseen_58 rfl rfl rfl ?_
          refine ol_X12_unseen_60 d p1 p2  _ _    H
        · have H := H.2 hc47
          refine ax_iconst (pc' := 51) (v := (0 : Int32)) dX12_unseen_50 (by decide) rfl ?_
          exact ax_iret dX12_unseen_51 rfl rfl rfl ⟨_, _, rfl, rfl, H⟩
      · have H := H.2 hc34
        refine ax_iconst (pc' := 38) (v := (1 : Int32)) dX12_unseen_37 (by decide) rfl ?_
        refine ax_goto (tgt := 42) dX12_unseen_38 (by decide) ?_
        refine ax_iconst (pc' := 43) (v := (2 : Int32)) dX12_unseen_42 (by decide) rfl ?_
        refine ax_iconst (pc' := 44) (v := (1 : Int32)) dX12_unseen_43 (by decide) rfl ?_
        refine ay_V3 (pc' := 47) (ce' := 0) (sl' := 0) (mc2 := 0) (ms2 := 0) (I2 := i_X12_bad) dX12_unseen_44 ml_X12_183 sh_69 (by decide) rfl rfl rfl rfl rfl rfl rfl rfl rfl (ac_M.imp (o_X12_bad _ (1 : Int32) (2 : Int32) (1 : Int32) H) ?_)
        rintro _ _ ⟨r44, s44, rfl, rfl, H⟩
        refine ax_if_eq (pc' := 50) (tgt := 52) dX12_unseen_47 (by decide) rfl (fun hc47 => ?_) (fun hc47 => ?_)
        · have H := H.1 hc47
          refine ax_iconst (pc' := 53) (v := (0 : Int32)) dX12_unseen_52 (by decide) rfl ?_
          refine ax_istore_n (pc' := 54) dX12_unseen_53 rfl rfl rfl ?_
          refine ax_iconst (pc' := 55) (v := (-1 : Int32)) dX12_unseen_54 (by decide) rfl ?_
          refine ax_istore (pc' := 57) dX12_unseen_55 rfl rfl rfl ?_
          refine ax_iconst (pc' := 58) (v := (0 : Int32)) dX12_unseen_57 (by decide) rfl ?_
          refine ax_istore (pc' := 60) dX12_unseen_58 rfl rfl rfl ?_
          refine ol_X12_unseen_60 d p1 p2  _ _    H
        · have H := H.2 hc47
          refine ax_iconst (pc' := 51) (v := (0 : Int32)) dX12_unseen_50 (by decide) rfl ?_
          exact ax_iret dX12_unseen_51 rfl rfl rfl ⟨_, _, rfl, rfl, H⟩
  · have H := H.2 hc11
    refine ax_iconst (pc' := 15) (v := (1 : Int32)) dX12_unseen_14 (by decide) rfl ?_
    refine ax_goto (tgt := 19) dX12_unseen_15 (by decide) ?_
    refine ax_iconst (pc' := 20) (v := (1 : Int32)) dX12_unseen_19 (by decide) rfl ?_
    refine ax_iconst (pc' := 21) (v := (0 : Int32)) dX12_unseen_20 (by decide) rfl ?_
    refine ay_V3 (pc' := 24) (ce' := 0) (sl' := 0) (mc2 := 0) (ms2 := 0) (I2 := i_X12_bad) dX12_unseen_21 ml_X12_183 sh_69 (by decide) rfl rfl rfl rfl rfl rfl rfl rfl rfl (ac_M.imp (o_X12_bad _ (1 : Int32) (1 : Int32) (0 : Int32) H) ?_)
    rintro _ _ ⟨r21, s21, rfl, rfl, H⟩
    refine ax_if_ne (pc' := 27) (tgt := 50) dX12_unseen_24 (by decide) rfl (fun hc24 => ?_) (fun hc24 => ?_)
    · have H := H.1 hc24
      refine ax_iconst (pc' := 51) (v := (0 : Int32)) dX12_unseen_50 (by decide) rfl ?_
      exact ax_iret dX12_unseen_51 rfl rfl rfl ⟨_, _, rfl, rfl, H⟩
    · have H := H.2 hc24
      refine ax_aload_n (pc' := 28) dX12_unseen_27 rfl rfl ?_
      refine ax_iload_n (pc' := 29) dX12_unseen_28 rfl rfl ?_
      refine ax_iconst (pc' := 30) (v := (0 : Int32)) dX12_unseen_29 (by decide) rfl ?_
      refine ax_iconst (pc' := 31) (v := (1 : Int32)) dX12_unseen_30 (by decide) rfl ?_
      refine ay_S3 (pc' := 34) (ce' := 0) (sl' := 0) (mc2 := 0) (ms2 := 0) (I2 := i_X12_in) dX12_unseen_31 ml_X12_138 rfl rfl rfl rfl rfl rfl rfl rfl (ac_M.imp (o_X12_in _ p2 (0 : Int32) (1 : Int32) H) ?_)
      rintro _ _ ⟨r31, s31, rfl, rfl, H⟩
      refine ax_if_ne (pc' := 37) (tgt := 41) dX12_unseen_34 (by decide) rfl (fun hc34 => ?_) (fun hc34 => ?_)
      · have H := H.1 hc34
        refine ax_iconst (pc' := 42) (v := (0 : Int32)) dX12_unseen_41 (by decide) rfl ?_
        refine ax_iconst (pc' := 43) (v := (2 : Int32)) dX12_unseen_42 (by decide) rfl ?_
        refine ax_iconst (pc' := 44) (v := (1 : Int32)) dX12_unseen_43 (by decide) rfl ?_
        refine ay_V3 (pc' := 47) (ce' := 0) (sl' := 0) (mc2 := 0) (ms2 := 0) (I2 := i_X12_bad) dX12_unseen_44 ml_X12_183 sh_69 (by decide) rfl rfl rfl rfl rfl rfl rfl rfl rfl (ac_M.imp (o_X12_bad _ (0 : Int32) (2 : Int32) (1 : Int32) H) ?_)
        rintro _ _ ⟨r44, s44, rfl, rfl, H⟩
        refine ax_if_eq (pc' := 50) (tgt := 52) dX12_unseen_47 (by decide) rfl (fun hc47 => ?_) (fun hc47 => ?_)
        · have H := H.1 hc47
          refine ax_iconst (pc' := 53) (v := (0 : Int32)) dX12_unseen_52 (by decide) rfl ?_
          refine ax_istore_n (pc' := 54) dX12_unseen_53 rfl rfl rfl ?_
          refine ax_iconst (pc' := 55) (v := (-1 : Int32)) dX12_unseen_54 (by decide) rfl ?_
          refine ax_istore (pc' := 57) dX12_unseen_55 rfl rfl rfl ?_
          refine ax_iconst (pc' := 58) (v := (0 : Int32)) dX12_unseen_57 (by decide) rfl ?_
          refine ax_istore (pc' := 60) dX12_unseen_58 rfl rfl rfl ?_
          refine ol_X12_unseen_60 d p1 p2  _ _    H
        · have H := H.2 hc47
          refine ax_iconst (pc' := 51) (v := (0 : Int32)) dX12_unseen_50 (by decide) rfl ?_
          exact ax_iret dX12_unseen_51 rfl rfl rfl ⟨_, _, rfl, rfl, H⟩
      · have H := H.2 hc34
        refine ax_iconst (pc' := 38) (v := (1 : Int32)) dX12_unseen_37 (by decide) rfl ?_
        refine ax_goto (tgt := 42) dX12_unseen_38 (by decide) ?_
        refine ax_iconst (pc' := 43) (v := (2 : Int32)) dX12_unseen_42 (by decide) rfl ?_
        refine ax_iconst (pc' := 44) (v := (1 : Int32)) dX12_unseen_43 (by decide) rfl ?_
        refine ay_V3 (pc' := 47) (ce' := 0) (sl' := 0) (mc2 := 0) (ms2 := 0) (I2 := i_X12_bad) dX12_unseen_44 ml_X12_183 sh_69 (by decide) rfl rfl rfl rfl rfl rfl rfl rfl rfl (ac_M.imp (o_X12_bad _ (1 : Int32) (2 : Int32) (1 : Int32) H) ?_)
        rintro _ _ ⟨r44, s44, rfl, rfl, H⟩
        refine ax_if_eq (pc' := 50) (tgt := 52) dX12_unseen_47 (by decide) rfl (fun hc47 => ?_) (fun hc47 => ?_)
        · have H := H.1 hc47
          refine ax_iconst (pc' := 53) (v := (0 : Int32)) dX12_unseen_52 (by decide) rfl ?_
          refine ax_istore_n (pc' := 54) dX12_unseen_53 rfl rfl rfl ?_
          refine ax_iconst (pc' := 55) (v := (-1 : Int32)) dX12_unseen_54 (by decide) rfl ?_
          refine ax_istore (pc' := 57) dX12_unseen_55 rfl rfl rfl ?_
          refine ax_iconst (pc' := 58) (v := (0 : Int32)) dX12_unseen_57 (by decide) rfl ?_
          refine ax_istore (pc' := 60) dX12_unseen_58 rfl rfl rfl ?_
          refine ol_X12_unseen_60 d p1 p2  _ _    H
        · have H := H.2 hc47
          refine ax_iconst (pc' := 51) (v := (0 : Int32)) dX12_unseen_50 (by decide) rfl ?_
          exact ax_iret dX12_unseen_51 rfl rfl rfl ⟨_, _, rfl, rfl, H⟩
theorem ol_X12_isTold_2 {g : ac_G} {τ : Nat → Nat → Int64} (d : Nat) (p1 : Int32) {Q : Int32 → ac_m → Prop}  (f1 : Int32)  {x2 : Int32} {s : ac_m} (H : l_X12_isTold_2 p1 Q  f1  x2 s) : ac_X g i_X12_isTold d 0 0 (liI τ Q) 0 0 2 [some (.ref 69), some (.int f1), some (.int x2)] [] (false, 586, SH, s, τ) := by
  refine H (fun x2 s => ac_X g i_X12_isTold d 0 0 (liI τ Q) 0 0 2 [some (.ref 69), some (.int f1), some (.int x2)] [] (false, 586, SH, s, τ)) ?_
  intro x2 s H
  refine ax_iload_n (pc' := 3) dX12_isTold_2 rfl rfl ?_
  refine ax_aload_n (pc' := 4) dX12_isTold_3 rfl rfl ?_
  refine ax_getI (pc' := 7) dX12_isTold_4 fl_X12_207 sh_69 rfl rfl rfl ?_
  refine ax_icmp_ge (pc' := 10) (tgt := 30) dX12_isTold_7 (by decide) rfl (fun hc7 => ?_) (fun hc7 => ?_)
  · have H := H.1 hc7
    refine ax_iconst (pc' := 31) (v := (0 : Int32)) dX12_isTold_30 (by decide) rfl ?_
    exact ax_zret dX12_isTold_31 rfl rfl rfl rfl ⟨_, _, rfl, rfl, H⟩
  · have H := H.2 hc7
    refine ax_aload_n (pc' := 11) dX12_isTold_10 rfl rfl ?_
    refine ax_getR (pc' := 14) dX12_isTold_11 fl_X12_52 sh_69 rfl rfl rfl ?_
    refine ax_iload_n (pc' := 15) dX12_isTold_14 rfl rfl ?_
    obtain ⟨hj15, H⟩ := H
    refine ax_aald (pc' := 16) dX12_isTold_15 sh_459 hj15 rfl rfl ?_
    refine ax_iconst (pc' := 17) (v := (0 : Int32)) dX12_isTold_16 (by decide) rfl ?_
    refine ax_iald (pc' := 18) dX12_isTold_17 (sh_r_460 _ (ac_lt hj15)) (ac_in (by decide)) (sh_n_460 _ (ac_lt hj15)) rfl ?_
    refine ax_iload_n (pc' := 19) dX12_isTold_18 rfl rfl ?_
    refine ax_icmp_ne (pc' := 22) (tgt := 24) dX12_isTold_19 (by decide) rfl (fun hc19 => ?_) (fun hc19 => ?_)
    · have H := H.1 hc19
      refine ax_iinc (pc' := 27) (v := (x2 + (1 : Int32))) dX12_isTold_24 rfl rfl rfl rfl rfl ?_
      refine ax_goto (tgt := 2) dX12_isTold_27 (by decide) ?_
      exact H
    · have H := H.2 hc19
      refine ax_iconst (pc' := 23) (v := (1 : Int32)) dX12_isTold_22 (by decide) rfl ?_
      exact ax_zret dX12_isTold_23 rfl rfl rfl rfl ⟨_, _, rfl, rfl, H⟩
theorem o_X12_isTold {g : ac_G} {τ : Nat → Nat → Int64} (d : Nat) (p1 : Int32) {Q : Int32 → ac_m → Prop} {s : ac_m} (H : w_X12_isTold p1 Q s) : ac_M g i_X12_isTold d 0 0 [.ref 69, .int p1] (false, 586, SH, s, τ) (liI τ Q) := by
  refine ac_ofX (by decide +kernel) rfl rfl rfl ?_
  refine ax_iconst (pc' := 1) (v := (0 : Int32)) dX12_isTold_0 (by decide) rfl ?_
  refine ax_istore_n (pc' := 2) dX12_isTold_1 rfl rfl rfl ?_
  refine ol_X12_isTold_2 d p1  _    H
theorem ol_X12_worstAt_39 {g : ac_G} {τ : Nat → Nat → Int64} (d : Nat) (p1 : Int32) (p2 : Int32) {Q : Int32 → ac_m → Prop} {K98 : Int32 → ac_m → Prop} (f1 : Int32) (f2 : Int32) (f4 : Int32)  {x3 : Int32} {x5 : Int32} {s : ac_m} (hK98 : ∀ (x3 : Int32) (s : ac_m), K98 x3 s → ac_X g i_X12_worstAt (d + 7) 0 0 (liI τ Q) 0 0 98 [some (.ref 69), some (.int f1), some (.int f2), some (.int x3), some (.int f4), none] [] (false, 586, SH, s, τ)) (H : l_X12_worstAt_39 p1 p2 Q K98 f1 f2 f4  x3 x5 s) : ac_X g i_X12_worstAt (d + 7) 0 0 (liI τ Q) 0 0 39 [some (.ref 69), some (.int f1), some (.int f2), some (.int x3), some (.int f4), some (.int x5)] [] (false, 586, SH, s, τ) := by
  refine H (fun x3 x5 s => ac_X g i_X12_worstAt (d + 7) 0 0 (liI τ Q) 0 0 39 [some (.ref 69), some (.int f1), some (.int f2), some (.int x3), some (.int f4), some (.int x5)] [] (false, 586, SH, s, τ)) ?_
  intro x3 x5 s H
  refine ax_iload (pc' := 41) dX12_worstAt_39 rfl rfl ?_
  refine ax_bipush (pc' := 43) (v := (30 : Int32)) dX12_worstAt_41 (by decide) rfl ?_
  refine ax_icmp_gt (pc' := 46) (tgt := 98) dX12_worstAt_43 (by decide) rfl (fun hc43 => ?_) (fun hc43 => ?_)
  · have H := H.1 hc43
    refine ax_drop 5 rfl ?_
    exact hK98 _ _ H
  · have H := H.2 hc43
    refine ax_aload_n (pc' := 47) dX12_worstAt_46 rfl rfl ?_
    refine ax_iload_n (pc' := 48) dX12_worstAt_47 rfl rfl ?_
    refine ax_iload (pc' := 50) dX12_worstAt_48 rfl rfl ?_
    refine ax_iload (pc' := 52) dX12_worstAt_50 rfl rfl ?_
    refine ay_V3 (pc' := 55) (ce' := 0) (sl' := 0) (mc2 := 0) (ms2 := 0) (I2 := i_X12_isUnseen) dX12_worstAt_52 ml_X12_372 sh_69 (by decide) rfl rfl rfl rfl rfl rfl rfl rfl rfl (ac_M.imp (o_X12_isUnseen _ f1 f4 x5 H) ?_)
    rintro _ _ ⟨r52, s52, rfl, rfl, H⟩
    refine ax_if_ne (pc' := 58) (tgt := 61) dX12_worstAt_55 (by decide) rfl (fun hc55 => ?_) (fun hc55 => ?_)
    · have H := H.1 hc55
      refine ax_aload_n (pc' := 62) dX12_worstAt_61 rfl rfl ?_
      refine ax_getR (pc' := 65) dX12_worstAt_62 fl_X12_88 sh_69 rfl rfl rfl ?_
      refine ax_aload_n (pc' := 66) dX12_worstAt_65 rfl rfl ?_
      refine ax_getR (pc' := 69) dX12_worstAt_66 fl_X12_85 sh_69 rfl rfl rfl ?_
      refine ax_iload_n (pc' := 70) dX12_worstAt_69 rfl rfl ?_
      obtain ⟨hj70, H⟩ := H
      refine ax_iald (pc' := 71) dX12_worstAt_70 sh_581 hj70 rfl rfl ?_
      refine ax_dup2 (pc' := 72) dX12_worstAt_71 rfl rfl rfl ?_
      obtain ⟨hj72, H⟩ := H
      refine ax_iald (pc' := 73) dX12_worstAt_72 sh_582 hj72 rfl rfl ?_
      refine ax_iconst (pc' := 74) (v := (1 : Int32)) dX12_worstAt_73 (by decide) rfl ?_
      refine ax_iadd (pc' := 75) dX12_worstAt_74 rfl ?_
      obtain ⟨hj75, H⟩ := H
      refine ax_iast (pc' := 76) dX12_worstAt_75 sh_582 hj75 rfl rfl ?_
      refine ax_iload_n (pc' := 77) dX12_worstAt_76 rfl rfl ?_
      refine ax_aload_n (pc' := 78) dX12_worstAt_77 rfl rfl ?_
      refine ax_getR (pc' := 81) dX12_worstAt_78 fl_X12_88 sh_69 rfl rfl rfl ?_
      refine ax_aload_n (pc' := 82) dX12_worstAt_81 rfl rfl ?_
      refine ax_getR (pc' := 85) dX12_worstAt_82 fl_X12_85 sh_69 rfl rfl rfl ?_
      refine ax_iload_n (pc' := 86) dX12_worstAt_85 rfl rfl ?_
      obtain ⟨hj86, H⟩ := H
      refine ax_iald (pc' := 87) dX12_worstAt_86 sh_581 hj86 rfl rfl ?_
      obtain ⟨hj87, H⟩ := H
      refine ax_iald (pc' := 88) dX12_worstAt_87 sh_582 hj87 rfl rfl ?_
      refine ay_S2 (pc' := 91) (ce' := 0) (sl' := 0) (mc2 := 0) (ms2 := 0) (I2 := i_X12_more) dX12_worstAt_88 ml_X12_250 rfl rfl rfl rfl rfl rfl rfl rfl (ac_M.imp (o_X12_more _ x3 ((ac_u s52 582 (s52 581 f2.toNatClampNeg).toNatClampNeg ((s52 582 (s52 581 f2.toNatClampNeg).toNatClampNeg) + (1 : Int32))) 582 ((ac_u s52 582 (s52 581 f2.toNatClampNeg).toNatClampNeg ((s52 582 (s52 581 f2.toNatClampNeg).toNatClampNeg) + (1 : Int32))) 581 f2.toNatClampNeg).toNatClampNeg) H) ?_)
      rintro _ _ ⟨r88, s88, rfl, rfl, H⟩
      refine ax_istore_n (pc' := 92) dX12_worstAt_91 rfl rfl rfl ?_
      refine ax_iinc (pc' := 95) (v := (x5 + (1 : Int32))) dX12_worstAt_92 rfl rfl rfl rfl rfl ?_
      refine ax_goto (tgt := 39) dX12_worstAt_95 (by decide) ?_
      exact H
    · have H := H.2 hc55
      refine ax_goto (tgt := 92) dX12_worstAt_58 (by decide) ?_
      refine ax_iinc (pc' := 95) (v := (x5 + (1 : Int32))) dX12_worstAt_92 rfl rfl rfl rfl rfl ?_
      refine ax_goto (tgt := 39) dX12_worstAt_95 (by decide) ?_
      exact H
theorem ol_X12_worstAt_29 {g : ac_G} {τ : Nat → Nat → Int64} (d : Nat) (p1 : Int32) (p2 : Int32) {Q : Int32 → ac_m → Prop}  (f1 : Int32) (f2 : Int32)  {x3 : Int32} {x4 : Int32} {s : ac_m} (H : l_X12_worstAt_29 p1 p2 Q  f1 f2  x3 x4 s) : ac_X g i_X12_worstAt (d + 7) 0 0 (liI τ Q) 0 0 29 [some (.ref 69), some (.int f1), some (.int f2), some (.int x3), some (.int x4), none] [] (false, 586, SH, s, τ) := by
  refine H (fun x3 x4 s => ac_X g i_X12_worstAt (d + 7) 0 0 (liI τ Q) 0 0 29 [some (.ref 69), some (.int f1), some (.int f2), some (.int x3), some (.int x4), none] [] (false, 586, SH, s, τ)) ?_
  intro x3 x4 s H
  refine ax_iload (pc' := 31) dX12_worstAt_29 rfl rfl ?_
  refine ax_bipush (pc' := 33) (v := (6 : Int32)) dX12_worstAt_31 (by decide) rfl ?_
  refine ax_icmp_ge (pc' := 36) (tgt := 104) dX12_worstAt_33 (by decide) rfl (fun hc33 => ?_) (fun hc33 => ?_)
  · have H := H.1 hc33
    refine ax_iload_n (pc' := 105) dX12_worstAt_104 rfl rfl ?_
    exact ax_iret dX12_worstAt_105 rfl rfl rfl ⟨_, _, rfl, rfl, H⟩
  · have H := H.2 hc33
    refine ax_iconst (pc' := 37) (v := (1 : Int32)) dX12_worstAt_36 (by decide) rfl ?_
    refine ax_istore (pc' := 39) dX12_worstAt_37 rfl rfl rfl ?_
    refine ol_X12_worstAt_39 d p1 p2  _ _ _   ?_ H
    · intro z39_3 sk39 H
      refine ax_iinc (pc' := 101) (v := (x4 + (1 : Int32))) dX12_worstAt_98 rfl rfl rfl rfl rfl ?_
      refine ax_goto (tgt := 29) dX12_worstAt_101 (by decide) ?_
      exact H
theorem ol_X12_worstAt_5 {g : ac_G} {τ : Nat → Nat → Int64} (d : Nat) (p1 : Int32) (p2 : Int32) {Q : Int32 → ac_m → Prop}  (f1 : Int32) (f2 : Int32) (f3 : Int32)  {x4 : Int32} {s : ac_m} (H : l_X12_worstAt_5 p1 p2 Q  f1 f2 f3  x4 s) : ac_X g i_X12_worstAt (d + 7) 0 0 (liI τ Q) 0 0 5 [some (.ref 69), some (.int f1), some (.int f2), some (.int f3), some (.int x4), none] [] (false, 586, SH, s, τ) := by
  refine H (fun x4 s => ac_X g i_X12_worstAt (d + 7) 0 0 (liI τ Q) 0 0 5 [some (.ref 69), some (.int f1), some (.int f2), some (.int f3), some (.int x4), none] [] (false, 586, SH, s, τ)) ?_
  intro x4 s H
  refine ax_iload (pc' := 7) dX12_worstAt_5 rfl rfl ?_
  refine ax_bipush (pc' := 9) (v := (99 : Int32)) dX12_worstAt_7 (by decide) rfl ?_
  refine ax_icmp_gt (pc' := 12) (tgt := 26) dX12_worstAt_9 (by decide) rfl (fun hc9 => ?_) (fun hc9 => ?_)
  · have H := H.1 hc9
    refine ax_iconst (pc' := 27) (v := (0 : Int32)) dX12_worstAt_26 (by decide) rfl ?_
    refine ax_istore (pc' := 29) dX12_worstAt_27 rfl rfl rfl ?_
    refine ol_X12_worstAt_29 d p1 p2  _ _    H
  · have H := H.2 hc9
    refine ax_aload_n (pc' := 13) dX12_worstAt_12 rfl rfl ?_
    refine ax_getR (pc' := 16) dX12_worstAt_13 fl_X12_88 sh_69 rfl rfl rfl ?_
    refine ax_iload (pc' := 18) dX12_worstAt_16 rfl rfl ?_
    refine ax_iconst (pc' := 19) (v := (0 : Int32)) dX12_worstAt_18 (by decide) rfl ?_
    obtain ⟨hj19, H⟩ := H
    refine ax_iast (pc' := 20) dX12_worstAt_19 sh_582 hj19 rfl rfl ?_
    refine ax_iinc (pc' := 23) (v := (x4 + (1 : Int32))) dX12_worstAt_20 rfl rfl rfl rfl rfl ?_
    refine ax_goto (tgt := 5) dX12_worstAt_23 (by decide) ?_
    exact H
theorem o_X12_worstAt {g : ac_G} {τ : Nat → Nat → Int64} (d : Nat) (p1 : Int32) (p2 : Int32) {Q : Int32 → ac_m → Prop} {s : ac_m} (H : w_X12_worstAt p1 p2 Q s) : ac_M g i_X12_worstAt (d + 7) 0 0 [.ref 69, .int p1, .int p2] (false, 586, SH, s, τ) (liI τ Q) := by
  refine ac_ofX (by decide +kernel) rfl rfl rfl ?_
  refine ax_iconst (pc' := 1) (v := (0 : Int32)) dX12_worstAt_0 (by decide) rfl ?_
  refine ax_istore_n (pc' := 2) dX12_worstAt_1 rfl rfl rfl ?_
  refine ax_iconst (pc' := 3) (v := (0 : Int32)) dX12_worstAt_2 (by decide) rfl ?_
  refine ax_istore (pc' := 5) dX12_worstAt_3 rfl rfl rfl ?_
  refine ol_X12_worstAt_5 d p1 p2  _ _ _    H
theorem ol_X12_look_60 {g : ac_G} {τ : Nat → Nat → Int64} (d : Nat) (p1 : Int32) (p2 : Int32) {Q : Int32 → ac_m → Prop}  (f1 : Int32) (f2 : Int32)  {x3 : Int32} {x4 : Int32} {x5 : Int32} {s : ac_m} (H : l_X12_look_60 p1 p2 Q  f1 f2  x3 x4 x5 s) : ac_X g i_X12_look (d + 8) 0 0 (liI τ Q) 0 0 60 [some (.ref 69), some (.int f1), some (.int f2), some (.int x3), some (.int x4), some (.int x5), none] [] (false, 586, SH, s, τ) := by
  refine H (fun x3 x4 x5 s => ac_X g i_X12_look (d + 8) 0 0 (liI τ Q) 0 0 60 [some (.ref 69), some (.int f1), some (.int f2), some (.int x3), some (.int x4), some (.int x5), none] [] (false, 586, SH, s, τ)) ?_
  intro x3 x4 x5 s H
  refine ax_iload (pc' := 62) dX12_look_60 rfl rfl ?_
  refine ax_bipush (pc' := 64) (v := (12 : Int32)) dX12_look_62 (by decide) rfl ?_
  refine ax_icmp_gt (pc' := 67) (tgt := 116) dX12_look_64 (by decide) rfl (fun hc64 => ?_) (fun hc64 => ?_)
  · have H := H.1 hc64
    refine ax_iload_n (pc' := 117) dX12_look_116 rfl rfl ?_
    refine ax_if_ne (pc' := 120) (tgt := 124) dX12_look_117 (by decide) rfl (fun hc117 => ?_) (fun hc117 => ?_)
    · have H := H.1 hc117
      refine ax_iload (pc' := 126) dX12_look_124 rfl rfl ?_
      exact ax_iret dX12_look_126 rfl rfl rfl ⟨_, _, rfl, rfl, H⟩
    · have H := H.2 hc117
      refine ax_iload_n (pc' := 121) dX12_look_120 rfl rfl ?_
      refine ax_goto (tgt := 126) dX12_look_121 (by decide) ?_
      exact ax_iret dX12_look_126 rfl rfl rfl ⟨_, _, rfl, rfl, H⟩
  · have H := H.2 hc64
    refine ax_aload_n (pc' := 68) dX12_look_67 rfl rfl ?_
    refine ax_iload (pc' := 70) dX12_look_68 rfl rfl ?_
    refine ay_V1 (pc' := 73) (ce' := 0) (sl' := 0) (mc2 := 0) (ms2 := 0) (I2 := i_X12_isTold) dX12_look_70 ml_X12_375 sh_69 (by decide) rfl rfl rfl rfl rfl rfl rfl rfl rfl (ac_M.imp (o_X12_isTold _ x5 H) ?_)
    rintro _ _ ⟨r70, s70, rfl, rfl, H⟩
    refine ax_if_eq (pc' := 76) (tgt := 79) dX12_look_73 (by decide) rfl (fun hc73 => ?_) (fun hc73 => ?_)
    · have H := H.1 hc73
      refine ax_aload_n (pc' := 80) dX12_look_79 rfl rfl ?_
      refine ax_iload_n (pc' := 81) dX12_look_80 rfl rfl ?_
      refine ax_iload (pc' := 83) dX12_look_81 rfl rfl ?_
      refine ay_V2 (pc' := 86) (ce' := 0) (sl' := 0) (mc2 := 0) (ms2 := 0) (I2 := i_X12_worstAt) dX12_look_83 ml_X12_378 sh_69 (by decide) rfl rfl rfl rfl rfl rfl rfl rfl rfl (ac_M.imp (o_X12_worstAt _ f1 x5 H) ?_)
      rintro _ _ ⟨r83, s83, rfl, rfl, H⟩
      refine ax_istore (pc' := 88) dX12_look_86 rfl rfl rfl ?_
      refine ax_iload_n (pc' := 89) dX12_look_88 rfl rfl ?_
      refine ax_iconst (pc' := 90) (v := (-1 : Int32)) dX12_look_89 (by decide) rfl ?_
      refine ax_icmp_eq (pc' := 93) (tgt := 103) dX12_look_90 (by decide) rfl (fun hc90 => ?_) (fun hc90 => ?_)
      · have H := H.1 hc90
        refine ax_iload (pc' := 105) dX12_look_103 rfl rfl ?_
        refine ax_istore_n (pc' := 106) dX12_look_105 rfl rfl rfl ?_
        refine ax_iload (pc' := 108) dX12_look_106 rfl rfl ?_
        refine ax_istore (pc' := 110) dX12_look_108 rfl rfl rfl ?_
        refine ax_iinc (pc' := 113) (v := (x5 + (1 : Int32))) dX12_look_110 rfl rfl rfl rfl rfl ?_
        refine ax_goto (tgt := 60) dX12_look_113 (by decide) ?_
        refine ax_drop 6 rfl ?_
        exact H
      · have H := H.2 hc90
        refine ax_iload (pc' := 95) dX12_look_93 rfl rfl ?_
        refine ax_iload (pc' := 97) dX12_look_95 rfl rfl ?_
        refine ax_icmp_lt (pc' := 100) (tgt := 103) dX12_look_97 (by decide) rfl (fun hc97 => ?_) (fun hc97 => ?_)
        · have H := H.1 hc97
          refine ax_iload (pc' := 105) dX12_look_103 rfl rfl ?_
          refine ax_istore_n (pc' := 106) dX12_look_105 rfl rfl rfl ?_
          refine ax_iload (pc' := 108) dX12_look_106 rfl rfl ?_
          refine ax_istore (pc' := 110) dX12_look_108 rfl rfl rfl ?_
          refine ax_iinc (pc' := 113) (v := (x5 + (1 : Int32))) dX12_look_110 rfl rfl rfl rfl rfl ?_
          refine ax_goto (tgt := 60) dX12_look_113 (by decide) ?_
          refine ax_drop 6 rfl ?_
          exact H
        · have H := H.2 hc97
          refine ax_goto (tgt := 110) dX12_look_100 (by decide) ?_
          refine ax_iinc (pc' := 113) (v := (x5 + (1 : Int32))) dX12_look_110 rfl rfl rfl rfl rfl ?_
          refine ax_goto (tgt := 60) dX12_look_113 (by decide) ?_
          refine ax_drop 6 rfl ?_
          exact H
    · have H := H.2 hc73
      refine ax_goto (tgt := 110) dX12_look_76 (by decide) ?_
      refine ax_iinc (pc' := 113) (v := (x5 + (1 : Int32))) dX12_look_110 rfl rfl rfl rfl rfl ?_
      refine ax_goto (tgt := 60) dX12_look_113 (by decide) ?_
      exact H
theorem o_X12_look {g : ac_G} {τ : Nat → Nat → Int64} (d : Nat) (p1 : Int32) (p2 : Int32) {Q : Int32 → ac_m → Prop} {s : ac_m} (H : w_X12_look p1 p2 Q s) : ac_M g i_X12_look (d + 8) 0 0 [.ref 69, .int p1, .int p2] (false, 586, SH, s, τ) (liI τ Q) := by
  refine ac_ofX (by decide +kernel) rfl rfl rfl ?_
  refine ax_aload_n (pc' := 1) dX12_look_0 rfl rfl ?_
  refine ax_iconst (pc' := 2) (v := (0 : Int32)) dX12_look_1 (by decide) rfl ?_
  refine ax_putI (pc' := 5) dX12_look_2 fp_X12_104 sh_69 rfl rfl rfl ?_
  refine ax_aload_n (pc' := 6) dX12_look_5 rfl rfl ?_
  refine ax_aload_n (pc' := 7) dX12_look_6 rfl rfl ?_
  refine ax_iload_n (pc' := 8) dX12_look_7 rfl rfl ?_
  refine ay_V1 (pc' := 11) (ce' := 0) (sl' := 0) (mc2 := 0) (ms2 := 0) (I2 := i_X12_isFolk) dX12_look_8 ml_X12_348 sh_69 (by decide) rfl rfl rfl rfl rfl rfl rfl rfl rfl (ac_M.imp (o_X12_isFolk _ p1 H) ?_)
  rintro _ _ ⟨r8, s8, rfl, rfl, H⟩
  refine ax_if_ne (pc' := 14) (tgt := 18) dX12_look_11 (by decide) rfl (fun hc11 => ?_) (fun hc11 => ?_)
  · have H := H.1 hc11
    refine ax_iconst (pc' := 19) (v := (0 : Int32)) dX12_look_18 (by decide) rfl ?_
    refine ax_iconst (pc' := 20) (v := (1 : Int32)) dX12_look_19 (by decide) rfl ?_
    refine ax_iconst (pc' := 21) (v := (0 : Int32)) dX12_look_20 (by decide) rfl ?_
    refine ay_V3 (pc' := 24) (ce' := 0) (sl' := 0) (mc2 := 0) (ms2 := 0) (I2 := i_X12_bad) dX12_look_21 ml_X12_183 sh_69 (by decide) rfl rfl rfl rfl rfl rfl rfl rfl rfl (ac_M.imp (o_X12_bad _ (0 : Int32) (1 : Int32) (0 : Int32) H) ?_)
    rintro _ _ ⟨r21, s21, rfl, rfl, H⟩
    refine ax_if_ne (pc' := 27) (tgt := 50) dX12_look_24 (by decide) rfl (fun hc24 => ?_) (fun hc24 => ?_)
    · have H := H.1 hc24
      refine ax_iconst (pc' := 51) (v := (0 : Int32)) dX12_look_50 (by decide) rfl ?_
      exact ax_iret dX12_look_51 rfl rfl rfl ⟨_, _, rfl, rfl, H⟩
    · have H := H.2 hc24
      refine ax_aload_n (pc' := 28) dX12_look_27 rfl rfl ?_
      refine ax_iload_n (pc' := 29) dX12_look_28 rfl rfl ?_
      refine ax_iconst (pc' := 30) (v := (0 : Int32)) dX12_look_29 (by decide) rfl ?_
      refine ax_iconst (pc' := 31) (v := (1 : Int32)) dX12_look_30 (by decide) rfl ?_
      refine ay_S3 (pc' := 34) (ce' := 0) (sl' := 0) (mc2 := 0) (ms2 := 0) (I2 := i_X12_in) dX12_look_31 ml_X12_138 rfl rfl rfl rfl rfl rfl rfl rfl (ac_M.imp (o_X12_in _ p2 (0 : Int32) (1 : Int32) H) ?_)
      rintro _ _ ⟨r31, s31, rfl, rfl, H⟩
      refine ax_if_ne (pc' := 37) (tgt := 41) dX12_look_34 (by decide) rfl (fun hc34 => ?_) (fun hc34 => ?_)
      · have H := H.1 hc34
        refine ax_iconst (pc' := 42) (v := (0 : Int32)) dX12_look_41 (by decide) rfl ?_
        refine ax_iconst (pc' := 43) (v := (2 : Int32)) dX12_look_42 (by decide) rfl ?_
        refine ax_iconst (pc' := 44) (v := (1 : Int32)) dX12_look_43 (by decide) rfl ?_
        refine ay_V3 (pc' := 47) (ce' := 0) (sl' := 0) (mc2 := 0) (ms2 := 0) (I2 := i_X12_bad) dX12_look_44 ml_X12_183 sh_69 (by decide) rfl rfl rfl rfl rfl rfl rfl rfl rfl (ac_M.imp (o_X12_bad _ (0 : Int32) (2 : Int32) (1 : Int32) H) ?_)
        rintro _ _ ⟨r44, s44, rfl, rfl, H⟩
        refine ax_if_eq (pc' := 50) (tgt := 52) dX12_look_47 (by decide) rfl (fun hc47 => ?_) (fun hc47 => ?_)
        · have H := H.1 hc47
          refine ax_iconst (pc' := 53) (v := (-1 : Int32)) dX12_look_52 (by decide) rfl ?_
          refine ax_istore_n (pc' := 54) dX12_look_53 rfl rfl rfl ?_
          refine ax_iconst (pc' := 55) (v := (-1 : Int32)) dX12_look_54 (by decide) rfl ?_
          refine ax_istore (pc' := 57) dX12_look_55 rfl rfl rfl ?_
          refine ax_iconst (pc' := 58) (v := (1 : Int32)) dX12_look_57 (by decide) rfl ?_
          refine ax_istore (pc' := 60) dX12_look_58 rfl rfl rfl ?_
          refine ol_X12_look_60 d p1 p2  _ _    H
        · have H := H.2 hc47
          refine ax_iconst (pc' := 51) (v := (0 : Int32)) dX12_look_50 (by decide) rfl ?_
          exact ax_iret dX12_look_51 rfl rfl rfl ⟨_, _, rfl, rfl, H⟩
      · have H := H.2 hc34
        refine ax_iconst (pc' := 38) (v := (1 : Int32)) dX12_look_37 (by decide) rfl ?_
        refine ax_goto (tgt := 42) dX12_look_38 (by decide) ?_
        refine ax_iconst (pc' := 43) (v := (2 : Int32)) dX12_look_42 (by decide) rfl ?_
        refine ax_iconst (pc' := 44) (v := (1 : Int32)) dX12_look_43 (by decide) rfl ?_
        refine ay_V3 (pc' := 47) (ce' := 0) (sl' := 0) (mc2 := 0) (ms2 := 0) (I2 := i_X12_bad) dX12_look_44 ml_X12_183 sh_69 (by decide) rfl rfl rfl rfl rfl rfl rfl rfl rfl (ac_M.imp (o_X12_bad _ (1 : Int32) (2 : Int32) (1 : Int32) H) ?_)
        rintro _ _ ⟨r44, s44, rfl, rfl, H⟩
        refine ax_if_eq (pc' := 50) (tgt := 52) dX12_look_47 (by decide) rfl (fun hc47 => ?_) (fun hc47 => ?_)
        · have H := H.1 hc47
          refine ax_iconst (pc' := 53) (v := (-1 : Int32)) dX12_look_52 (by decide) rfl ?_
          refine ax_istore_n (pc' := 54) dX12_look_53 rfl rfl rfl ?_
          refine ax_iconst (pc' := 55) (v := (-1 : Int32)) dX12_look_54 (by decide) rfl ?_
          refine ax_istore (pc' := 57) dX12_look_55 rfl rfl rfl ?_
          refine ax_iconst (pc' := 58) (v := (1 : Int32)) dX12_look_57 (by decide) rfl ?_
          refine ax_istore (pc' := 60) dX12_look_58 rfl rfl rfl ?_
          refine ol_X12_look_60 d p1 p2  _ _    H
        · have H := H.2 hc47
          refine ax_iconst (pc' := 51) (v := (0 : Int32)) dX12_look_50 (by decide) rfl ?_
          exact ax_iret dX12_look_51 rfl rfl rfl ⟨_, _, rfl, rfl, H⟩
  · have H := H.2 hc11
    refine ax_iconst (pc' := 15) (v := (1 : Int32)) dX12_look_14 (by decide) rfl ?_
    refine ax_goto (tgt := 19) dX12_look_15 (by decide) ?_
    refine ax_iconst (pc' := 20) (v := (1 : Int32)) dX12_look_19 (by decide) rfl ?_
    refine ax_iconst (pc' := 21) (v := (0 : Int32)) dX12_look_20 (by decide) rfl ?_
    refine ay_V3 (pc' := 24) (ce' := 0) (sl' := 0) (mc2 := 0) (ms2 := 0) (I2 := i_X12_bad) dX12_look_21 ml_X12_183 sh_69 (by decide) rfl rfl rfl rfl rfl rfl rfl rfl rfl (ac_M.imp (o_X12_bad _ (1 : Int32) (1 : Int32) (0 : Int32) H) ?_)
    rintro _ _ ⟨r21, s21, rfl, rfl, H⟩
    refine ax_if_ne (pc' := 27) (tgt := 50) dX12_look_24 (by decide) rfl (fun hc24 => ?_) (fun hc24 => ?_)
    · have H := H.1 hc24
      refine ax_iconst (pc' := 51) (v := (0 : Int32)) dX12_look_50 (by decide) rfl ?_
      exact ax_iret dX12_look_51 rfl rfl rfl ⟨_, _, rfl, rfl, H⟩
    · have H := H.2 hc24
      refine ax_aload_n (pc' := 28) dX12_look_27 rfl rfl ?_
      refine ax_iload_n (pc' := 29) dX12_look_28 rfl rfl ?_
      refine ax_iconst (pc' := 30) (v := (0 : Int32)) dX12_look_29 (by decide) rfl ?_
      refine ax_iconst (pc' := 31) (v := (1 : Int32)) dX12_look_30 (by decide) rfl ?_
      refine ay_S3 (pc' := 34) (ce' := 0) (sl' := 0) (mc2 := 0) (ms2 := 0) (I2 := i_X12_in) dX12_look_31 ml_X12_138 rfl rfl rfl rfl rfl rfl rfl rfl (ac_M.imp (o_X12_in _ p2 (0 : Int32) (1 : Int32) H) ?_)
      rintro _ _ ⟨r31, s31, rfl, rfl, H⟩
      refine ax_if_ne (pc' := 37) (tgt := 41) dX12_look_34 (by decide) rfl (fun hc34 => ?_) (fun hc34 => ?_)
      · have H := H.1 hc34
        refine ax_iconst (pc' := 42) (v := (0 : Int32)) dX12_look_41 (by decide) rfl ?_
        refine ax_iconst (pc' := 43) (v := (2 : Int32)) dX12_look_42 (by decide) rfl ?_
        refine ax_iconst (pc' := 44) (v := (1 : Int32)) dX12_look_43 (by decide) rfl ?_
        refine ay_V3 (pc' := 47) (ce' := 0) (sl' := 0) (mc2 := 0) (ms2 := 0) (I2 := i_X12_bad) dX12_look_44 ml_X12_183 sh_69 (by decide) rfl rfl rfl rfl rfl rfl rfl rfl rfl (ac_M.imp (o_X12_bad _ (0 : Int32) (2 : Int32) (1 : Int32) H) ?_)
        rintro _ _ ⟨r44, s44, rfl, rfl, H⟩
        refine ax_if_eq (pc' := 50) (tgt := 52) dX12_look_47 (by decide) rfl (fun hc47 => ?_) (fun hc47 => ?_)
        · have H := H.1 hc47
          refine ax_iconst (pc' := 53) (v := (-1 : Int32)) dX12_look_52 (by decide) rfl ?_
          refine ax_istore_n (pc' := 54) dX12_look_53 rfl rfl rfl ?_
          refine ax_iconst (pc' := 55) (v := (-1 : Int32)) dX12_look_54 (by decide) rfl ?_
          refine ax_istore (pc' := 57) dX12_look_55 rfl rfl rfl ?_
          refine ax_iconst (pc' := 58) (v := (1 : Int32)) dX12_look_57 (by decide) rfl ?_
          refine ax_istore (pc' := 60) dX12_look_58 rfl rfl rfl ?_
          refine ol_X12_look_60 d p1 p2  _ _    H
        · have H := H.2 hc47
          refine ax_iconst (pc' := 51) (v := (0 : Int32)) dX12_look_50 (by decide) rfl ?_
          exact ax_iret dX12_look_51 rfl rfl rfl ⟨_, _, rfl, rfl, H⟩
      · have H := H.2 hc34
        refine ax_iconst (pc' := 38) (v := (1 : Int32)) dX12_look_37 (by decide) rfl ?_
        refine ax_goto (tgt := 42) dX12_look_38 (by decide) ?_
        refine ax_iconst (pc' := 43) (v := (2 : Int32)) dX12_look_42 (by decide) rfl ?_
        refine ax_iconst (pc' := 44) (v := (1 : Int32)) dX12_look_43 (by decide) rfl ?_
        refine ay_V3 (pc' := 47) (ce' := 0) (sl' := 0) (mc2 := 0) (ms2 := 0) (I2 := i_X12_bad) dX12_look_44 ml_X12_183 sh_69 (by decide) rfl rfl rfl rfl rfl rfl rfl rfl rfl (ac_M.imp (o_X12_bad _ (1 : Int32) (2 : Int32) (1 : Int32) H) ?_)
        rintro _ _ ⟨r44, s44, rfl, rfl, H⟩
        refine ax_if_eq (pc' := 50) (tgt := 52) dX12_look_47 (by decide) rfl (fun hc47 => ?_) (fun hc47 => ?_)
        · have H := H.1 hc47
          refine ax_iconst (pc' := 53) (v := (-1 : Int32)) dX12_look_52 (by decide) rfl ?_
          refine ax_istore_n (pc' := 54) dX12_look_53 rfl rfl rfl ?_
          refine ax_iconst (pc' := 55) (v := (-1 : Int32)) dX12_look_54 (by decide) rfl ?_
          refine ax_istore (pc' := 57) dX12_look_55 rfl rfl rfl ?_
          refine ax_iconst (pc' := 58) (v := (1 : Int32)) dX12_look_57 (by decide) rfl ?_
          refine ax_istore (pc' := 60) dX12_look_58 rfl rfl rfl ?_
          refine ol_X12_look_60 d p1 p2  _ _    H
        · have H := H.2 hc47
          refine ax_iconst (pc' := 51) (v := (0 : Int32)) dX12_look_50 (by decide) rfl ?_
          exact ax_iret dX12_look_51 rfl rfl rfl ⟨_, _, rfl, rfl, H⟩
theorem ol_X12_further_4 {g : ac_G} {τ : Nat → Nat → Int64} (d : Nat) (p1 : Int32) {Q : Int32 → ac_m → Prop}  (f1 : Int32)  {x2 : Int32} {x3 : Int32} {s : ac_m} (H : l_X12_further_4 p1 Q  f1  x2 x3 s) : ac_X g i_X12_further (d + 1) 0 0 (liI τ Q) 0 0 4 [some (.ref 69), some (.int f1), some (.int x2), some (.int x3)] [] (false, 586, SH, s, τ) := by
  refine H (fun x2 x3 s => ac_X g i_X12_further (d + 1) 0 0 (liI τ Q) 0 0 4 [some (.ref 69), some (.int f1), some (.int x2), some (.int x3)] [] (false, 586, SH, s, τ)) ?_
  intro x2 x3 s H
  refine ax_iload_n (pc' := 5) dX12_further_4 rfl rfl ?_
  refine ax_aload_n (pc' := 6) dX12_further_5 rfl rfl ?_
  refine ax_getR (pc' := 9) dX12_further_6 fl_X12_23 sh_69 rfl rfl rfl ?_
  refine ax_iconst (pc' := 10) (v := (1 : Int32)) dX12_further_9 (by decide) rfl ?_
  refine ax_iald (pc' := 11) dX12_further_10 sh_73 (ac_in (by decide)) rfl rfl ?_
  refine ax_icmp_ge (pc' := 14) (tgt := 63) dX12_further_11 (by decide) rfl (fun hc11 => ?_) (fun hc11 => ?_)
  · have H := H.1 hc11
    refine ax_iload_n (pc' := 64) dX12_further_63 rfl rfl ?_
    exact ax_iret dX12_further_64 rfl rfl rfl ⟨_, _, rfl, rfl, H⟩
  · have H := H.2 hc11
    refine ax_iload_n (pc' := 15) dX12_further_14 rfl rfl ?_
    refine ax_aload_n (pc' := 16) dX12_further_15 rfl rfl ?_
    refine ax_getR (pc' := 19) dX12_further_16 fl_X12_67 sh_69 rfl rfl rfl ?_
    refine ax_iload_n (pc' := 20) dX12_further_19 rfl rfl ?_
    refine ay_S2 (pc' := 23) (ce' := 0) (sl' := 0) (mc2 := 0) (ms2 := 0) (I2 := i_X12_isThere) dX12_further_20 ml_X12_273 rfl rfl rfl rfl rfl rfl rfl rfl (ac_M.imp (o_X12_isThere _ 556 x3 sh_556 rfl H) ?_)
    rintro _ _ ⟨r20, s20, rfl, rfl, H⟩
    refine ax_if_eq (pc' := 26) (tgt := 54) dX12_further_23 (by decide) rfl (fun hc23 => ?_) (fun hc23 => ?_)
    · have H := H.1 hc23
      refine ax_iconst (pc' := 55) (v := (0 : Int32)) dX12_further_54 (by decide) rfl ?_
      refine ax_ior (pc' := 56) dX12_further_55 rfl ?_
      refine ax_istore_n (pc' := 57) dX12_further_56 rfl rfl rfl ?_
      refine ax_iinc (pc' := 60) (v := (x3 + (1 : Int32))) dX12_further_57 rfl rfl rfl rfl rfl ?_
      refine ax_goto (tgt := 4) dX12_further_60 (by decide) ?_
      exact H
    · have H := H.2 hc23
      refine ax_iload_n (pc' := 27) dX12_further_26 rfl rfl ?_
      refine ax_aload_n (pc' := 28) dX12_further_27 rfl rfl ?_
      refine ax_getR (pc' := 31) dX12_further_28 fl_X12_37 sh_69 rfl rfl rfl ?_
      refine ax_iload_n (pc' := 32) dX12_further_31 rfl rfl ?_
      obtain ⟨hj32, H⟩ := H
      refine ax_aald (pc' := 33) dX12_further_32 sh_101 hj32 rfl rfl ?_
      refine ax_iconst (pc' := 34) (v := (1 : Int32)) dX12_further_33 (by decide) rfl ?_
      refine ax_iald (pc' := 35) dX12_further_34 (sh_r_102 _ (ac_lt hj32)) (ac_in (by decide)) (sh_n_102 _ (ac_lt hj32)) rfl ?_
      refine ay_S2 (pc' := 38) (ce' := 0) (sl' := 0) (mc2 := 0) (ms2 := 0) (I2 := i_X12_has) dX12_further_35 ml_X12_266 rfl rfl rfl rfl rfl rfl rfl rfl (ac_M.imp (o_X12_has _ f1 (s20 (102 + x3.toNatClampNeg) (1 : Int32).toNatClampNeg) H) ?_)
      rintro _ _ ⟨r35, s35, rfl, rfl, H⟩
      refine ax_if_eq (pc' := 41) (tgt := 54) dX12_further_38 (by decide) rfl (fun hc38 => ?_) (fun hc38 => ?_)
      · have H := H.1 hc38
        refine ax_iconst (pc' := 55) (v := (0 : Int32)) dX12_further_54 (by decide) rfl ?_
        refine ax_ior (pc' := 56) dX12_further_55 rfl ?_
        refine ax_istore_n (pc' := 57) dX12_further_56 rfl rfl rfl ?_
        refine ax_iinc (pc' := 60) (v := (x3 + (1 : Int32))) dX12_further_57 rfl rfl rfl rfl rfl ?_
        refine ax_goto (tgt := 4) dX12_further_60 (by decide) ?_
        exact H
      · have H := H.2 hc38
        refine ax_iconst (pc' := 42) (v := (1 : Int32)) dX12_further_41 (by decide) rfl ?_
        refine ax_aload_n (pc' := 43) dX12_further_42 rfl rfl ?_
        refine ax_getR (pc' := 46) dX12_further_43 fl_X12_37 sh_69 rfl rfl rfl ?_
        refine ax_iload_n (pc' := 47) dX12_further_46 rfl rfl ?_
        obtain ⟨hj47, H⟩ := H
        refine ax_aald (pc' := 48) dX12_further_47 sh_101 hj47 rfl rfl ?_
        refine ax_iconst (pc' := 49) (v := (0 : Int32)) dX12_further_48 (by decide) rfl ?_
        refine ax_iald (pc' := 50) dX12_further_49 (sh_r_102 _ (ac_lt hj47)) (ac_in (by decide)) (sh_n_102 _ (ac_lt hj47)) rfl ?_
        refine ax_ishl (pc' := 51) dX12_further_50 rfl ?_
        refine ax_goto (tgt := 55) dX12_further_51 (by decide) ?_
        refine ax_ior (pc' := 56) dX12_further_55 rfl ?_
        refine ax_topi (fun y56 hy56 => ?_)
        have H := H y56 hy56
        refine ax_istore_n (pc' := 57) dX12_further_56 rfl rfl rfl ?_
        refine ax_iinc (pc' := 60) (v := (x3 + (1 : Int32))) dX12_further_57 rfl rfl rfl rfl rfl ?_
        refine ax_goto (tgt := 4) dX12_further_60 (by decide) ?_
        exact H
theorem o_X12_further {g : ac_G} {τ : Nat → Nat → Int64} (d : Nat) (p1 : Int32) {Q : Int32 → ac_m → Prop} {s : ac_m} (H : w_X12_further p1 Q s) : ac_M g i_X12_further (d + 1) 0 0 [.ref 69, .int p1] (false, 586, SH, s, τ) (liI τ Q) := by
  refine ac_ofX (by decide +kernel) rfl rfl rfl ?_
  refine ax_iload_n (pc' := 1) dX12_further_0 rfl rfl ?_
  refine ax_istore_n (pc' := 2) dX12_further_1 rfl rfl rfl ?_
  refine ax_iconst (pc' := 3) (v := (0 : Int32)) dX12_further_2 (by decide) rfl ?_
  refine ax_istore_n (pc' := 4) dX12_further_3 rfl rfl rfl ?_
  refine ol_X12_further_4 d p1  _    H
theorem ol_X12_way_44 {g : ac_G} {τ : Nat → Nat → Int64} (d : Nat) (p1 : Int32) (p2 : Int32) {Q : Int32 → ac_m → Prop}  (f2 : Int32)  {x3 : Int32} {x4 : Int32} {s : ac_m} (H : l_X12_way_44 p1 p2 Q  f2  x3 x4 s) : ac_X g i_X12_way (d + 2) 0 0 (liI τ Q) 0 0 44 [some (.ref 69), none, some (.int f2), some (.int x3), some (.int x4)] [] (false, 586, SH, s, τ) := by
  refine H (fun x3 x4 s => ac_X g i_X12_way (d + 2) 0 0 (liI τ Q) 0 0 44 [some (.ref 69), none, some (.int f2), some (.int x3), some (.int x4)] [] (false, 586, SH, s, τ)) ?_
  intro x3 x4 s H
  refine ax_iload (pc' := 46) dX12_way_44 rfl rfl ?_
  refine ax_aload_n (pc' := 47) dX12_way_46 rfl rfl ?_
  refine ax_getR (pc' := 50) dX12_way_47 fl_X12_23 sh_69 rfl rfl rfl ?_
  refine ax_iconst (pc' := 51) (v := (0 : Int32)) dX12_way_50 (by decide) rfl ?_
  refine ax_iald (pc' := 52) dX12_way_51 sh_73 (ac_in (by decide)) rfl rfl ?_
  refine ax_icmp_ge (pc' := 55) (tgt := 78) dX12_way_52 (by decide) rfl (fun hc52 => ?_) (fun hc52 => ?_)
  · have H := H.1 hc52
    refine ax_iconst (pc' := 79) (v := (-1 : Int32)) dX12_way_78 (by decide) rfl ?_
    exact ax_iret dX12_way_79 rfl rfl rfl ⟨_, _, rfl, rfl, H⟩
  · have H := H.2 hc52
    refine ax_iload_n (pc' := 56) dX12_way_55 rfl rfl ?_
    refine ax_iload_n (pc' := 57) dX12_way_56 rfl rfl ?_
    refine ay_S2 (pc' := 60) (ce' := 0) (sl' := 0) (mc2 := 0) (ms2 := 0) (I2 := i_X12_has) dX12_way_57 ml_X12_266 rfl rfl rfl rfl rfl rfl rfl rfl (ac_M.imp (o_X12_has _ x3 f2 H) ?_)
    rintro _ _ ⟨r57, s57, rfl, rfl, H⟩
    refine ax_if_eq (pc' := 63) (tgt := 66) dX12_way_60 (by decide) rfl (fun hc60 => ?_) (fun hc60 => ?_)
    · have H := H.1 hc60
      refine ax_aload_n (pc' := 67) dX12_way_66 rfl rfl ?_
      refine ax_iload_n (pc' := 68) dX12_way_67 rfl rfl ?_
      refine ay_V1 (pc' := 71) (ce' := 0) (sl' := 0) (mc2 := 0) (ms2 := 0) (I2 := i_X12_further) dX12_way_68 ml_X12_381 sh_69 (by decide) rfl rfl rfl rfl rfl rfl rfl rfl rfl (ac_M.imp (o_X12_further _ x3 H) ?_)
      rintro _ _ ⟨r68, s68, rfl, rfl, H⟩
      refine ax_istore_n (pc' := 72) dX12_way_71 rfl rfl rfl ?_
      refine ax_iinc (pc' := 75) (v := (x4 + (1 : Int32))) dX12_way_72 rfl rfl rfl rfl rfl ?_
      refine ax_goto (tgt := 44) dX12_way_75 (by decide) ?_
      exact H
    · have H := H.2 hc60
      refine ax_iload (pc' := 65) dX12_way_63 rfl rfl ?_
      exact ax_iret dX12_way_65 rfl rfl rfl ⟨_, _, rfl, rfl, H⟩
theorem o_X12_way {g : ac_G} {τ : Nat → Nat → Int64} (d : Nat) (p1 : Int32) (p2 : Int32) {Q : Int32 → ac_m → Prop} {s : ac_m} (H : w_X12_way p1 p2 Q s) : ac_M g i_X12_way (d + 2) 0 0 [.ref 69, .int p1, .int p2] (false, 586, SH, s, τ) (liI τ Q) := by
  refine ac_ofX (by decide +kernel) rfl rfl rfl ?_
  refine ax_aload_n (pc' := 1) dX12_way_0 rfl rfl ?_
  refine ax_iconst (pc' := 2) (v := (0 : Int32)) dX12_way_1 (by decide) rfl ?_
  refine ax_putI (pc' := 5) dX12_way_2 fp_X12_104 sh_69 rfl rfl rfl ?_
  refine ax_aload_n (pc' := 6) dX12_way_5 rfl rfl ?_
  refine ax_aload_n (pc' := 7) dX12_way_6 rfl rfl ?_
  refine ax_iload_n (pc' := 8) dX12_way_7 rfl rfl ?_
  refine ay_V1 (pc' := 11) (ce' := 0) (sl' := 0) (mc2 := 0) (ms2 := 0) (I2 := i_X12_isFolk) dX12_way_8 ml_X12_348 sh_69 (by decide) rfl rfl rfl rfl rfl rfl rfl rfl rfl (ac_M.imp (o_X12_isFolk _ p1 H) ?_)
  rintro _ _ ⟨r8, s8, rfl, rfl, H⟩
  refine ax_if_eq (pc' := 14) (tgt := 22) dX12_way_11 (by decide) rfl (fun hc11 => ?_) (fun hc11 => ?_)
  · have H := H.1 hc11
    refine ax_iconst (pc' := 23) (v := (1 : Int32)) dX12_way_22 (by decide) rfl ?_
    refine ax_goto (tgt := 27) dX12_way_23 (by decide) ?_
    refine ax_iconst (pc' := 28) (v := (1 : Int32)) dX12_way_27 (by decide) rfl ?_
    refine ax_iconst (pc' := 29) (v := (0 : Int32)) dX12_way_28 (by decide) rfl ?_
    refine ay_V3 (pc' := 32) (ce' := 0) (sl' := 0) (mc2 := 0) (ms2 := 0) (I2 := i_X12_bad) dX12_way_29 ml_X12_183 sh_69 (by decide) rfl rfl rfl rfl rfl rfl rfl rfl rfl (ac_M.imp (o_X12_bad _ (1 : Int32) (1 : Int32) (0 : Int32) H) ?_)
    rintro _ _ ⟨r29, s29, rfl, rfl, H⟩
    refine ax_if_eq (pc' := 35) (tgt := 37) dX12_way_32 (by decide) rfl (fun hc32 => ?_) (fun hc32 => ?_)
    · have H := H.1 hc32
      refine ax_iconst (pc' := 38) (v := (1 : Int32)) dX12_way_37 (by decide) rfl ?_
      refine ax_iload_n (pc' := 39) dX12_way_38 rfl rfl ?_
      refine ax_ishl (pc' := 40) dX12_way_39 rfl ?_
      refine ax_istore_n (pc' := 41) dX12_way_40 rfl rfl rfl ?_
      refine ax_iconst (pc' := 42) (v := (0 : Int32)) dX12_way_41 (by decide) rfl ?_
      refine ax_istore (pc' := 44) dX12_way_42 rfl rfl rfl ?_
      refine ax_drop 1 rfl ?_
      refine ol_X12_way_44 d p1 p2  _    H
    · have H := H.2 hc32
      refine ax_iconst (pc' := 36) (v := (0 : Int32)) dX12_way_35 (by decide) rfl ?_
      exact ax_iret dX12_way_36 rfl rfl rfl ⟨_, _, rfl, rfl, H⟩
  · have H := H.2 hc11
    refine ax_aload_n (pc' := 15) dX12_way_14 rfl rfl ?_
    refine ax_iload_n (pc' := 16) dX12_way_15 rfl rfl ?_
    refine ay_V1 (pc' := 19) (ce' := 0) (sl' := 0) (mc2 := 0) (ms2 := 0) (I2 := i_X12_isFolk) dX12_way_16 ml_X12_348 sh_69 (by decide) rfl rfl rfl rfl rfl rfl rfl rfl rfl (ac_M.imp (o_X12_isFolk _ p2 H) ?_)
    rintro _ _ ⟨r16, s16, rfl, rfl, H⟩
    refine ax_if_ne (pc' := 22) (tgt := 26) dX12_way_19 (by decide) rfl (fun hc19 => ?_) (fun hc19 => ?_)
    · have H := H.1 hc19
      refine ax_iconst (pc' := 27) (v := (0 : Int32)) dX12_way_26 (by decide) rfl ?_
      refine ax_iconst (pc' := 28) (v := (1 : Int32)) dX12_way_27 (by decide) rfl ?_
      refine ax_iconst (pc' := 29) (v := (0 : Int32)) dX12_way_28 (by decide) rfl ?_
      refine ay_V3 (pc' := 32) (ce' := 0) (sl' := 0) (mc2 := 0) (ms2 := 0) (I2 := i_X12_bad) dX12_way_29 ml_X12_183 sh_69 (by decide) rfl rfl rfl rfl rfl rfl rfl rfl rfl (ac_M.imp (o_X12_bad _ (0 : Int32) (1 : Int32) (0 : Int32) H) ?_)
      rintro _ _ ⟨r29, s29, rfl, rfl, H⟩
      refine ax_if_eq (pc' := 35) (tgt := 37) dX12_way_32 (by decide) rfl (fun hc32 => ?_) (fun hc32 => ?_)
      · have H := H.1 hc32
        refine ax_iconst (pc' := 38) (v := (1 : Int32)) dX12_way_37 (by decide) rfl ?_
        refine ax_iload_n (pc' := 39) dX12_way_38 rfl rfl ?_
        refine ax_ishl (pc' := 40) dX12_way_39 rfl ?_
        refine ax_istore_n (pc' := 41) dX12_way_40 rfl rfl rfl ?_
        refine ax_iconst (pc' := 42) (v := (0 : Int32)) dX12_way_41 (by decide) rfl ?_
        refine ax_istore (pc' := 44) dX12_way_42 rfl rfl rfl ?_
        refine ax_drop 1 rfl ?_
        refine ol_X12_way_44 d p1 p2  _    H
      · have H := H.2 hc32
        refine ax_iconst (pc' := 36) (v := (0 : Int32)) dX12_way_35 (by decide) rfl ?_
        exact ax_iret dX12_way_36 rfl rfl rfl ⟨_, _, rfl, rfl, H⟩
    · have H := H.2 hc19
      refine ax_iconst (pc' := 23) (v := (1 : Int32)) dX12_way_22 (by decide) rfl ?_
      refine ax_goto (tgt := 27) dX12_way_23 (by decide) ?_
      refine ax_iconst (pc' := 28) (v := (1 : Int32)) dX12_way_27 (by decide) rfl ?_
      refine ax_iconst (pc' := 29) (v := (0 : Int32)) dX12_way_28 (by decide) rfl ?_
      refine ay_V3 (pc' := 32) (ce' := 0) (sl' := 0) (mc2 := 0) (ms2 := 0) (I2 := i_X12_bad) dX12_way_29 ml_X12_183 sh_69 (by decide) rfl rfl rfl rfl rfl rfl rfl rfl rfl (ac_M.imp (o_X12_bad _ (1 : Int32) (1 : Int32) (0 : Int32) H) ?_)
      rintro _ _ ⟨r29, s29, rfl, rfl, H⟩
      refine ax_if_eq (pc' := 35) (tgt := 37) dX12_way_32 (by decide) rfl (fun hc32 => ?_) (fun hc32 => ?_)
      · have H := H.1 hc32
        refine ax_iconst (pc' := 38) (v := (1 : Int32)) dX12_way_37 (by decide) rfl ?_
        refine ax_iload_n (pc' := 39) dX12_way_38 rfl rfl ?_
        refine ax_ishl (pc' := 40) dX12_way_39 rfl ?_
        refine ax_istore_n (pc' := 41) dX12_way_40 rfl rfl rfl ?_
        refine ax_iconst (pc' := 42) (v := (0 : Int32)) dX12_way_41 (by decide) rfl ?_
        refine ax_istore (pc' := 44) dX12_way_42 rfl rfl rfl ?_
        refine ax_drop 1 rfl ?_
        refine ol_X12_way_44 d p1 p2  _    H
      · have H := H.2 hc32
        refine ax_iconst (pc' := 36) (v := (0 : Int32)) dX12_way_35 (by decide) rfl ?_
        exact ax_iret dX12_way_36 rfl rfl rfl ⟨_, _, rfl, rfl, H⟩
theorem ol_X12_price_82 {g : ac_G} {τ : Nat → Nat → Int64} (d : Nat) (p1 : Int32) (p2 : Int32) {Q : Int32 → ac_m → Prop} {K154 : ac_m → Prop} (f2 : Int32) (f3 : Int32)  {x4 : Int32} {s : ac_m} (hK154 : ∀  (s : ac_m), K154  s → ac_X g i_X12_price (d + 1) 0 0 (liI τ Q) 0 0 154 [some (.ref 69), none, some (.int f2), some (.int f3), none] [] (false, 586, SH, s, τ)) (H : l_X12_price_82 p1 p2 Q K154 f2 f3  x4 s) : ac_X g i_X12_price (d + 1) 0 0 (liI τ Q) 0 0 82 [some (.ref 69), none, some (.int f2), some (.int f3), some (.int x4)] [] (false, 586, SH, s, τ) := by
  refine H (fun x4 s => ac_X g i_X12_price (d + 1) 0 0 (liI τ Q) 0 0 82 [some (.ref 69), none, some (.int f2), some (.int f3), some (.int x4)] [] (false, 586, SH, s, τ)) ?_
  intro x4 s H
  refine ax_iload (pc' := 84) dX12_price_82 rfl rfl ?_
  refine ax_aload_n (pc' := 85) dX12_price_84 rfl rfl ?_
  refine ax_getR (pc' := 88) dX12_price_85 fl_X12_23 sh_69 rfl rfl rfl ?_
  refine ax_iconst (pc' := 89) (v := (2 : Int32)) dX12_price_88 (by decide) rfl ?_
  refine ax_iald (pc' := 90) dX12_price_89 sh_73 (ac_in (by decide)) rfl rfl ?_
  refine ax_icmp_ge (pc' := 93) (tgt := 154) dX12_price_90 (by decide) rfl (fun hc90 => ?_) (fun hc90 => ?_)
  · have H := H.1 hc90
    refine ax_drop 4 rfl ?_
    exact hK154 _ H
  · have H := H.2 hc90
    refine ax_aload_n (pc' := 94) dX12_price_93 rfl rfl ?_
    refine ax_getR (pc' := 97) dX12_price_94 fl_X12_91 sh_69 rfl rfl rfl ?_
    refine ax_aload_n (pc' := 98) dX12_price_97 rfl rfl ?_
    refine ax_getR (pc' := 101) dX12_price_98 fl_X12_43 sh_69 rfl rfl rfl ?_
    refine ax_iload (pc' := 103) dX12_price_101 rfl rfl ?_
    obtain ⟨hj103, H⟩ := H
    refine ax_aald (pc' := 104) dX12_price_103 sh_126 hj103 rfl rfl ?_
    refine ax_iconst (pc' := 105) (v := (1 : Int32)) dX12_price_104 (by decide) rfl ?_
    refine ax_iald (pc' := 106) dX12_price_105 (sh_r_127 _ (ac_lt hj103)) (ac_in (by decide)) (sh_n_127 _ (ac_lt hj103)) rfl ?_
    refine ax_aload_n (pc' := 107) dX12_price_106 rfl rfl ?_
    refine ax_getR (pc' := 110) dX12_price_107 fl_X12_91 sh_69 rfl rfl rfl ?_
    refine ax_aload_n (pc' := 111) dX12_price_110 rfl rfl ?_
    refine ax_getR (pc' := 114) dX12_price_111 fl_X12_43 sh_69 rfl rfl rfl ?_
    refine ax_iload (pc' := 116) dX12_price_114 rfl rfl ?_
    obtain ⟨hj116, H⟩ := H
    refine ax_aald (pc' := 117) dX12_price_116 sh_126 hj116 rfl rfl ?_
    refine ax_iconst (pc' := 118) (v := (1 : Int32)) dX12_price_117 (by decide) rfl ?_
    refine ax_iald (pc' := 119) dX12_price_118 (sh_r_127 _ (ac_lt hj116)) (ac_in (by decide)) (sh_n_127 _ (ac_lt hj116)) rfl ?_
    obtain ⟨hj119, H⟩ := H
    refine ax_iald (pc' := 120) dX12_price_119 sh_583 hj119 rfl rfl ?_
    refine ax_aload_n (pc' := 121) dX12_price_120 rfl rfl ?_
    refine ax_getR (pc' := 124) dX12_price_121 fl_X12_91 sh_69 rfl rfl rfl ?_
    refine ax_aload_n (pc' := 125) dX12_price_124 rfl rfl ?_
    refine ax_getR (pc' := 128) dX12_price_125 fl_X12_43 sh_69 rfl rfl rfl ?_
    refine ax_iload (pc' := 130) dX12_price_128 rfl rfl ?_
    obtain ⟨hj130, H⟩ := H
    refine ax_aald (pc' := 131) dX12_price_130 sh_126 hj130 rfl rfl ?_
    refine ax_iconst (pc' := 132) (v := (0 : Int32)) dX12_price_131 (by decide) rfl ?_
    refine ax_iald (pc' := 133) dX12_price_132 (sh_r_127 _ (ac_lt hj130)) (ac_in (by decide)) (sh_n_127 _ (ac_lt hj130)) rfl ?_
    obtain ⟨hj133, H⟩ := H
    refine ax_iald (pc' := 134) dX12_price_133 sh_583 hj133 rfl rfl ?_
    refine ax_aload_n (pc' := 135) dX12_price_134 rfl rfl ?_
    refine ax_getR (pc' := 138) dX12_price_135 fl_X12_43 sh_69 rfl rfl rfl ?_
    refine ax_iload (pc' := 140) dX12_price_138 rfl rfl ?_
    obtain ⟨hj140, H⟩ := H
    refine ax_aald (pc' := 141) dX12_price_140 sh_126 hj140 rfl rfl ?_
    refine ax_iconst (pc' := 142) (v := (2 : Int32)) dX12_price_141 (by decide) rfl ?_
    refine ax_iald (pc' := 143) dX12_price_142 (sh_r_127 _ (ac_lt hj140)) (ac_in (by decide)) (sh_n_127 _ (ac_lt hj140)) rfl ?_
    refine ax_imul (pc' := 144) dX12_price_143 rfl ?_
    refine ay_S2 (pc' := 147) (ce' := 0) (sl' := 0) (mc2 := 0) (ms2 := 0) (I2 := i_X12_less) dX12_price_144 ml_X12_247 rfl rfl rfl rfl rfl rfl rfl rfl (ac_M.imp (o_X12_less _ (s 583 (s (127 + x4.toNatClampNeg) (1 : Int32).toNatClampNeg).toNatClampNeg) ((s 583 (s (127 + x4.toNatClampNeg) (0 : Int32).toNatClampNeg).toNatClampNeg) * (s (127 + x4.toNatClampNeg) (2 : Int32).toNatClampNeg)) H) ?_)
    rintro _ _ ⟨r144, s144, rfl, rfl, H⟩
    obtain ⟨hj147, H⟩ := H
    refine ax_iast (pc' := 148) dX12_price_147 sh_583 hj147 rfl rfl ?_
    refine ax_iinc (pc' := 151) (v := (x4 + (1 : Int32))) dX12_price_148 rfl rfl rfl rfl rfl ?_
    refine ax_goto (tgt := 82) dX12_price_151 (by decide) ?_
    exact H
theorem ol_X12_price_73 {g : ac_G} {τ : Nat → Nat → Int64} (d : Nat) (p1 : Int32) (p2 : Int32) {Q : Int32 → ac_m → Prop}  (f2 : Int32)  {x3 : Int32} {s : ac_m} (H : l_X12_price_73 p1 p2 Q  f2  x3 s) : ac_X g i_X12_price (d + 1) 0 0 (liI τ Q) 0 0 73 [some (.ref 69), none, some (.int f2), some (.int x3), none] [] (false, 586, SH, s, τ) := by
  refine H (fun x3 s => ac_X g i_X12_price (d + 1) 0 0 (liI τ Q) 0 0 73 [some (.ref 69), none, some (.int f2), some (.int x3), none] [] (false, 586, SH, s, τ)) ?_
  intro x3 s H
  refine ax_iload_n (pc' := 74) dX12_price_73 rfl rfl ?_
  refine ax_bipush (pc' := 76) (v := (6 : Int32)) dX12_price_74 (by decide) rfl ?_
  refine ax_icmp_ge (pc' := 79) (tgt := 160) dX12_price_76 (by decide) rfl (fun hc76 => ?_) (fun hc76 => ?_)
  · have H := H.1 hc76
    refine ax_aload_n (pc' := 161) dX12_price_160 rfl rfl ?_
    refine ax_getR (pc' := 164) dX12_price_161 fl_X12_91 sh_69 rfl rfl rfl ?_
    refine ax_iload_n (pc' := 165) dX12_price_164 rfl rfl ?_
    obtain ⟨hj165, H⟩ := H
    refine ax_iald (pc' := 166) dX12_price_165 sh_583 hj165 rfl rfl ?_
    refine ax_sipush (pc' := 169) (v := (999 : Int32)) dX12_price_166 (by decide) rfl ?_
    refine ax_icmp_le (pc' := 172) (tgt := 176) dX12_price_169 (by decide) rfl (fun hc169 => ?_) (fun hc169 => ?_)
    · have H := H.1 hc169
      refine ax_aload_n (pc' := 177) dX12_price_176 rfl rfl ?_
      refine ax_getR (pc' := 180) dX12_price_177 fl_X12_91 sh_69 rfl rfl rfl ?_
      refine ax_iload_n (pc' := 181) dX12_price_180 rfl rfl ?_
      obtain ⟨hj181, H⟩ := H
      refine ax_iald (pc' := 182) dX12_price_181 sh_583 hj181 rfl rfl ?_
      exact ax_iret dX12_price_182 rfl rfl rfl ⟨_, _, rfl, rfl, H⟩
    · have H := H.2 hc169
      refine ax_iconst (pc' := 173) (v := (-1 : Int32)) dX12_price_172 (by decide) rfl ?_
      refine ax_goto (tgt := 182) dX12_price_173 (by decide) ?_
      exact ax_iret dX12_price_182 rfl rfl rfl ⟨_, _, rfl, rfl, H⟩
  · have H := H.2 hc76
    refine ax_iconst (pc' := 80) (v := (0 : Int32)) dX12_price_79 (by decide) rfl ?_
    refine ax_istore (pc' := 82) dX12_price_80 rfl rfl rfl ?_
    refine ol_X12_price_82 d p1 p2  _ _   ?_ H
    · intro  sk82 H
      refine ax_iinc (pc' := 157) (v := (x3 + (1 : Int32))) dX12_price_154 rfl rfl rfl rfl rfl ?_
      refine ax_goto (tgt := 73) dX12_price_157 (by decide) ?_
      exact H
theorem ol_X12_price_41 {g : ac_G} {τ : Nat → Nat → Int64} (d : Nat) (p1 : Int32) (p2 : Int32) {Q : Int32 → ac_m → Prop}  (f1 : Int32) (f2 : Int32)  {x3 : Int32} {s : ac_m} (H : l_X12_price_41 p1 p2 Q  f1 f2  x3 s) : ac_X g i_X12_price (d + 1) 0 0 (liI τ Q) 0 0 41 [some (.ref 69), some (.int f1), some (.int f2), some (.int x3), none] [] (false, 586, SH, s, τ) := by
  refine H (fun x3 s => ac_X g i_X12_price (d + 1) 0 0 (liI τ Q) 0 0 41 [some (.ref 69), some (.int f1), some (.int f2), some (.int x3), none] [] (false, 586, SH, s, τ)) ?_
  intro x3 s H
  refine ax_iload_n (pc' := 42) dX12_price_41 rfl rfl ?_
  refine ax_bipush (pc' := 44) (v := (6 : Int32)) dX12_price_42 (by decide) rfl ?_
  refine ax_icmp_ge (pc' := 47) (tgt := 71) dX12_price_44 (by decide) rfl (fun hc44 => ?_) (fun hc44 => ?_)
  · have H := H.1 hc44
    refine ax_iconst (pc' := 72) (v := (0 : Int32)) dX12_price_71 (by decide) rfl ?_
    refine ax_istore_n (pc' := 73) dX12_price_72 rfl rfl rfl ?_
    refine ax_drop 1 rfl ?_
    refine ol_X12_price_73 d p1 p2  _    H
  · have H := H.2 hc44
    refine ax_aload_n (pc' := 48) dX12_price_47 rfl rfl ?_
    refine ax_getR (pc' := 51) dX12_price_48 fl_X12_91 sh_69 rfl rfl rfl ?_
    refine ax_iload_n (pc' := 52) dX12_price_51 rfl rfl ?_
    refine ax_iload_n (pc' := 53) dX12_price_52 rfl rfl ?_
    refine ax_iload_n (pc' := 54) dX12_price_53 rfl rfl ?_
    refine ax_icmp_ne (pc' := 57) (tgt := 61) dX12_price_54 (by decide) rfl (fun hc54 => ?_) (fun hc54 => ?_)
    · have H := H.1 hc54
      refine ax_sipush (pc' := 64) (v := (1000 : Int32)) dX12_price_61 (by decide) rfl ?_
      obtain ⟨hj64, H⟩ := H
      refine ax_iast (pc' := 65) dX12_price_64 sh_583 hj64 rfl rfl ?_
      refine ax_iinc (pc' := 68) (v := (x3 + (1 : Int32))) dX12_price_65 rfl rfl rfl rfl rfl ?_
      refine ax_goto (tgt := 41) dX12_price_68 (by decide) ?_
      exact H
    · have H := H.2 hc54
      refine ax_iconst (pc' := 58) (v := (1 : Int32)) dX12_price_57 (by decide) rfl ?_
      refine ax_goto (tgt := 64) dX12_price_58 (by decide) ?_
      obtain ⟨hj64, H⟩ := H
      refine ax_iast (pc' := 65) dX12_price_64 sh_583 hj64 rfl rfl ?_
      refine ax_iinc (pc' := 68) (v := (x3 + (1 : Int32))) dX12_price_65 rfl rfl rfl rfl rfl ?_
      refine ax_goto (tgt := 41) dX12_price_68 (by decide) ?_
      exact H
theorem o_X12_price {g : ac_G} {τ : Nat → Nat → Int64} (d : Nat) (p1 : Int32) (p2 : Int32) {Q : Int32 → ac_m → Prop} {s : ac_m} (H : w_X12_price p1 p2 Q s) : ac_M g i_X12_price (d + 1) 0 0 [.ref 69, .int p1, .int p2] (false, 586, SH, s, τ) (liI τ Q) := by
  refine ac_ofX (by decide +kernel) rfl rfl rfl ?_
  refine ax_aload_n (pc' := 1) dX12_price_0 rfl rfl ?_
  refine ax_iconst (pc' := 2) (v := (0 : Int32)) dX12_price_1 (by decide) rfl ?_
  refine ax_putI (pc' := 5) dX12_price_2 fp_X12_104 sh_69 rfl rfl rfl ?_
  refine ax_aload_n (pc' := 6) dX12_price_5 rfl rfl ?_
  refine ax_iload_n (pc' := 7) dX12_price_6 rfl rfl ?_
  refine ax_iconst (pc' := 8) (v := (0 : Int32)) dX12_price_7 (by decide) rfl ?_
  refine ax_iconst (pc' := 9) (v := (5 : Int32)) dX12_price_8 (by decide) rfl ?_
  refine ay_S3 (pc' := 12) (ce' := 0) (sl' := 0) (mc2 := 0) (ms2 := 0) (I2 := i_X12_in) dX12_price_9 ml_X12_138 rfl rfl rfl rfl rfl rfl rfl rfl (ac_M.imp (o_X12_in _ p1 (0 : Int32) (5 : Int32) H) ?_)
  rintro _ _ ⟨r9, s9, rfl, rfl, H⟩
  refine ax_if_eq (pc' := 15) (tgt := 24) dX12_price_12 (by decide) rfl (fun hc12 => ?_) (fun hc12 => ?_)
  · have H := H.1 hc12
    refine ax_iconst (pc' := 25) (v := (1 : Int32)) dX12_price_24 (by decide) rfl ?_
    refine ax_goto (tgt := 29) dX12_price_25 (by decide) ?_
    refine ax_iconst (pc' := 30) (v := (1 : Int32)) dX12_price_29 (by decide) rfl ?_
    refine ax_iconst (pc' := 31) (v := (1 : Int32)) dX12_price_30 (by decide) rfl ?_
    refine ay_V3 (pc' := 34) (ce' := 0) (sl' := 0) (mc2 := 0) (ms2 := 0) (I2 := i_X12_bad) dX12_price_31 ml_X12_183 sh_69 (by decide) rfl rfl rfl rfl rfl rfl rfl rfl rfl (ac_M.imp (o_X12_bad _ (1 : Int32) (1 : Int32) (1 : Int32) H) ?_)
    rintro _ _ ⟨r31, s31, rfl, rfl, H⟩
    refine ax_if_eq (pc' := 37) (tgt := 39) dX12_price_34 (by decide) rfl (fun hc34 => ?_) (fun hc34 => ?_)
    · have H := H.1 hc34
      refine ax_iconst (pc' := 40) (v := (0 : Int32)) dX12_price_39 (by decide) rfl ?_
      refine ax_istore_n (pc' := 41) dX12_price_40 rfl rfl rfl ?_
      refine ol_X12_price_41 d p1 p2  _ _    H
    · have H := H.2 hc34
      refine ax_iconst (pc' := 38) (v := (0 : Int32)) dX12_price_37 (by decide) rfl ?_
      exact ax_iret dX12_price_38 rfl rfl rfl ⟨_, _, rfl, rfl, H⟩
  · have H := H.2 hc12
    refine ax_iload_n (pc' := 16) dX12_price_15 rfl rfl ?_
    refine ax_iconst (pc' := 17) (v := (0 : Int32)) dX12_price_16 (by decide) rfl ?_
    refine ax_iconst (pc' := 18) (v := (5 : Int32)) dX12_price_17 (by decide) rfl ?_
    refine ay_S3 (pc' := 21) (ce' := 0) (sl' := 0) (mc2 := 0) (ms2 := 0) (I2 := i_X12_in) dX12_price_18 ml_X12_138 rfl rfl rfl rfl rfl rfl rfl rfl (ac_M.imp (o_X12_in _ p2 (0 : Int32) (5 : Int32) H) ?_)
    rintro _ _ ⟨r18, s18, rfl, rfl, H⟩
    refine ax_if_ne (pc' := 24) (tgt := 28) dX12_price_21 (by decide) rfl (fun hc21 => ?_) (fun hc21 => ?_)
    · have H := H.1 hc21
      refine ax_iconst (pc' := 29) (v := (0 : Int32)) dX12_price_28 (by decide) rfl ?_
      refine ax_iconst (pc' := 30) (v := (1 : Int32)) dX12_price_29 (by decide) rfl ?_
      refine ax_iconst (pc' := 31) (v := (1 : Int32)) dX12_price_30 (by decide) rfl ?_
      refine ay_V3 (pc' := 34) (ce' := 0) (sl' := 0) (mc2 := 0) (ms2 := 0) (I2 := i_X12_bad) dX12_price_31 ml_X12_183 sh_69 (by decide) rfl rfl rfl rfl rfl rfl rfl rfl rfl (ac_M.imp (o_X12_bad _ (0 : Int32) (1 : Int32) (1 : Int32) H) ?_)
      rintro _ _ ⟨r31, s31, rfl, rfl, H⟩
      refine ax_if_eq (pc' := 37) (tgt := 39) dX12_price_34 (by decide) rfl (fun hc34 => ?_) (fun hc34 => ?_)
      · have H := H.1 hc34
        refine ax_iconst (pc' := 40) (v := (0 : Int32)) dX12_price_39 (by decide) rfl ?_
        refine ax_istore_n (pc' := 41) dX12_price_40 rfl rfl rfl ?_
        refine ol_X12_price_41 d p1 p2  _ _    H
      · have H := H.2 hc34
        refine ax_iconst (pc' := 38) (v := (0 : Int32)) dX12_price_37 (by decide) rfl ?_
        exact ax_iret dX12_price_38 rfl rfl rfl ⟨_, _, rfl, rfl, H⟩
    · have H := H.2 hc21
      refine ax_iconst (pc' := 25) (v := (1 : Int32)) dX12_price_24 (by decide) rfl ?_
      refine ax_goto (tgt := 29) dX12_price_25 (by decide) ?_
      refine ax_iconst (pc' := 30) (v := (1 : Int32)) dX12_price_29 (by decide) rfl ?_
      refine ax_iconst (pc' := 31) (v := (1 : Int32)) dX12_price_30 (by decide) rfl ?_
      refine ay_V3 (pc' := 34) (ce' := 0) (sl' := 0) (mc2 := 0) (ms2 := 0) (I2 := i_X12_bad) dX12_price_31 ml_X12_183 sh_69 (by decide) rfl rfl rfl rfl rfl rfl rfl rfl rfl (ac_M.imp (o_X12_bad _ (1 : Int32) (1 : Int32) (1 : Int32) H) ?_)
      rintro _ _ ⟨r31, s31, rfl, rfl, H⟩
      refine ax_if_eq (pc' := 37) (tgt := 39) dX12_price_34 (by decide) rfl (fun hc34 => ?_) (fun hc34 => ?_)
      · have H := H.1 hc34
        refine ax_iconst (pc' := 40) (v := (0 : Int32)) dX12_price_39 (by decide) rfl ?_
        refine ax_istore_n (pc' := 41) dX12_price_40 rfl rfl rfl ?_
        refine ol_X12_price_41 d p1 p2  _ _    H
      · have H := H.2 hc34
        refine ax_iconst (pc' := 38) (v := (0 : Int32)) dX12_price_37 (by decide) rfl ?_
        exact ax_iret dX12_price_38 rfl rfl rfl ⟨_, _, rfl, rfl, H⟩
theorem o_X12_hasBy {g : ac_G} {τ : Nat → Nat → Int64} (d : Nat) (p1 : Int32) (p2 : Int32) (p3 : Int32) (p4 : Int32) {Q : Int32 → ac_m → Prop} {s : ac_m} (H : w_X12_hasBy p1 p2 p3 p4 Q s) : ac_M g i_X12_hasBy d 0 0 [.int p1, .int p2, .int p3, .int p4] (false, 586, SH, s, τ) (liI τ Q) := by
  refine ac_ofX (by decide +kernel) rfl rfl rfl ?_
  refine ax_iload_n (pc' := 1) dX12_hasBy_0 rfl rfl ?_
  refine ax_iconst (pc' := 2) (v := (1 : Int32)) dX12_hasBy_1 (by decide) rfl ?_
  refine ax_icmp_ne (pc' := 5) (tgt := 9) dX12_hasBy_2 (by decide) rfl (fun hc2 => ?_) (fun hc2 => ?_)
  · have H := H.1 hc2
    refine ax_iload_n (pc' := 10) dX12_hasBy_9 rfl rfl ?_
    refine ax_if_ne (pc' := 13) (tgt := 19) dX12_hasBy_10 (by decide) rfl (fun hc10 => ?_) (fun hc10 => ?_)
    · have H := H.1 hc10
      refine ax_iload_n (pc' := 20) dX12_hasBy_19 rfl rfl ?_
      refine ax_ineg (pc' := 21) dX12_hasBy_20 rfl ?_
      exact ax_iret dX12_hasBy_21 rfl rfl rfl ⟨_, _, rfl, rfl, H⟩
    · have H := H.2 hc10
      refine ax_iload_n (pc' := 14) dX12_hasBy_13 rfl rfl ?_
      refine ax_iload_n (pc' := 15) dX12_hasBy_14 rfl rfl ?_
      refine ax_isub (pc' := 16) dX12_hasBy_15 rfl ?_
      refine ax_goto (tgt := 21) dX12_hasBy_16 (by decide) ?_
      exact ax_iret dX12_hasBy_21 rfl rfl rfl ⟨_, _, rfl, rfl, H⟩
  · have H := H.2 hc2
    refine ax_iconst (pc' := 6) (v := (0 : Int32)) dX12_hasBy_5 (by decide) rfl ?_
    refine ax_goto (tgt := 21) dX12_hasBy_6 (by decide) ?_
    exact ax_iret dX12_hasBy_21 rfl rfl rfl ⟨_, _, rfl, rfl, H⟩
theorem o_X12_isBest {g : ac_G} {τ : Nat → Nat → Int64} (d : Nat) (p1 : Int32) (p2 : Int32) (p3 : Int32) (p4 : Int32) {Q : Int32 → ac_m → Prop} {s : ac_m} (H : w_X12_isBest p1 p2 p3 p4 Q s) : ac_M g i_X12_isBest (d + 1) 0 0 [.int p1, .int p2, .int p3, .int p4] (false, 586, SH, s, τ) (liI τ Q) := by
  refine ac_ofX (by decide +kernel) rfl rfl rfl ?_
  refine ax_iload_n (pc' := 1) dX12_isBest_0 rfl rfl ?_
  refine ax_iload_n (pc' := 2) dX12_isBest_1 rfl rfl ?_
  refine ax_iload_n (pc' := 3) dX12_isBest_2 rfl rfl ?_
  refine ax_iload_n (pc' := 4) dX12_isBest_3 rfl rfl ?_
  refine ay_S4 (pc' := 7) (ce' := 0) (sl' := 0) (mc2 := 0) (ms2 := 0) (I2 := i_X12_hasBy) dX12_isBest_4 ml_X12_384 rfl rfl rfl rfl rfl rfl rfl rfl (ac_M.imp (o_X12_hasBy _ p1 p2 p3 p4 H) ?_)
  rintro _ _ ⟨r4, s4, rfl, rfl, H⟩
  refine ax_iconst (pc' := 8) (v := (1 : Int32)) dX12_isBest_7 (by decide) rfl ?_
  refine ax_iload_n (pc' := 9) dX12_isBest_8 rfl rfl ?_
  refine ax_isub (pc' := 10) dX12_isBest_9 rfl ?_
  refine ax_iload_n (pc' := 11) dX12_isBest_10 rfl rfl ?_
  refine ax_iload_n (pc' := 12) dX12_isBest_11 rfl rfl ?_
  refine ax_iload_n (pc' := 13) dX12_isBest_12 rfl rfl ?_
  refine ay_S4 (pc' := 16) (ce' := 0) (sl' := 0) (mc2 := 0) (ms2 := 0) (I2 := i_X12_hasBy) dX12_isBest_13 ml_X12_384 rfl rfl rfl rfl rfl rfl rfl rfl (ac_M.imp (o_X12_hasBy _ ((1 : Int32) - p1) p2 p3 p4 H) ?_)
  rintro _ _ ⟨r13, s13, rfl, rfl, H⟩
  refine ax_icmp_lt (pc' := 19) (tgt := 23) dX12_isBest_16 (by decide) rfl (fun hc16 => ?_) (fun hc16 => ?_)
  · have H := H.1 hc16
    refine ax_iconst (pc' := 24) (v := (0 : Int32)) dX12_isBest_23 (by decide) rfl ?_
    exact ax_zret dX12_isBest_24 rfl rfl rfl rfl ⟨_, _, rfl, rfl, H⟩
  · have H := H.2 hc16
    refine ax_iconst (pc' := 20) (v := (1 : Int32)) dX12_isBest_19 (by decide) rfl ?_
    refine ax_goto (tgt := 24) dX12_isBest_20 (by decide) ?_
    exact ax_zret dX12_isBest_24 rfl rfl rfl rfl ⟨_, _, rfl, rfl, H⟩
theorem ol_X12_owing_71 {g : ac_G} {τ : Nat → Nat → Int64} (d : Nat) (p1 : Int32) (p2 : Int32) (p3 : Int32) {Q : Int32 → ac_m → Prop} {K164 : Int32 → Int32 → Int32 → ac_m → Prop} (f1 : Int32) (f2 : Int32) (f3 : Int32) (f7 : Int32)  {x4 : Int32} {x5 : Int32} {x6 : Int32} {x8 : Int32} {s : ac_m} (hK164 : ∀ (x4 : Int32) (x5 : Int32) (x6 : Int32) (s : ac_m), K164 x4 x5 x6 s → ac_X g i_X12_owing (d + 2) 0 0 (liI τ Q) 0 0 164 [none, some (.int f1), some (.int f2), some (.int f3), some (.int x4), some (.int x5), some (.int x6), some (.int f7), none] [] (false, 586, SH, s, τ)) (H : l_X12_owing_71 p1 p2 p3 Q K164 f1 f2 f3 f7  x4 x5 x6 x8 s) : ac_X g i_X12_owing (d + 2) 0 0 (liI τ Q) 0 0 71 [none, some (.int f1), some (.int f2), some (.int f3), some (.int x4), some (.int x5), some (.int x6), some (.int f7), some (.int x8)] [] (false, 586, SH, s, τ) := by
  refine H (fun x4 x5 x6 x8 s => ac_X g i_X12_owing (d + 2) 0 0 (liI τ Q) 0 0 71 [none, some (.int f1), some (.int f2), some (.int f3), some (.int x4), some (.int x5), some (.int x6), some (.int f7), some (.int x8)] [] (false, 586, SH, s, τ)) ?_
  intro x4 x5 x6 x8 s H
  refine ax_iload (pc' := 73) dX12_owing_71 rfl rfl ?_
  refine ax_iconst (pc' := 74) (v := (2 : Int32)) dX12_owing_73 (by decide) rfl ?_
  refine ax_icmp_ge (pc' := 77) (tgt := 164) dX12_owing_74 (by decide) rfl (fun hc74 => ?_) (fun hc74 => ?_)
  · have H := H.1 hc74
    refine ax_drop 8 rfl ?_
    exact hK164 _ _ _ _ H
  · have H := H.2 hc74
    refine ax_iload (pc' := 79) dX12_owing_77 rfl rfl ?_
    refine ax_iload (pc' := 81) dX12_owing_79 rfl rfl ?_
    refine ax_iload_n (pc' := 82) dX12_owing_81 rfl rfl ?_
    refine ax_iload_n (pc' := 83) dX12_owing_82 rfl rfl ?_
    refine ay_S4 (pc' := 86) (ce' := 0) (sl' := 0) (mc2 := 0) (ms2 := 0) (I2 := i_X12_isBest) dX12_owing_83 ml_X12_388 rfl rfl rfl rfl rfl rfl rfl rfl (ac_M.imp (o_X12_isBest _ f7 x8 f1 f2 H) ?_)
    rintro _ _ ⟨r83, s83, rfl, rfl, H⟩
    refine ax_if_eq (pc' := 89) (tgt := 158) dX12_owing_86 (by decide) rfl (fun hc86 => ?_) (fun hc86 => ?_)
    · have H := H.1 hc86
      refine ax_iinc (pc' := 161) (v := (x8 + (1 : Int32))) dX12_owing_158 rfl rfl rfl rfl rfl ?_
      refine ax_goto (tgt := 71) dX12_owing_161 (by decide) ?_
      exact H
    · have H := H.2 hc86
      refine ax_iload (pc' := 91) dX12_owing_89 rfl rfl ?_
      refine ax_iload (pc' := 93) dX12_owing_91 rfl rfl ?_
      refine ax_iload_n (pc' := 94) dX12_owing_93 rfl rfl ?_
      refine ax_iload_n (pc' := 95) dX12_owing_94 rfl rfl ?_
      refine ay_S4 (pc' := 98) (ce' := 0) (sl' := 0) (mc2 := 0) (ms2 := 0) (I2 := i_X12_isBest) dX12_owing_95 ml_X12_388 rfl rfl rfl rfl rfl rfl rfl rfl (ac_M.imp (o_X12_isBest _ x8 f7 f1 f2 H) ?_)
      rintro _ _ ⟨r95, s95, rfl, rfl, H⟩
      refine ax_if_ne (pc' := 101) (tgt := 104) dX12_owing_98 (by decide) rfl (fun hc98 => ?_) (fun hc98 => ?_)
      · have H := H.1 hc98
        refine ax_iload (pc' := 106) dX12_owing_104 rfl rfl ?_
        refine ax_if_ne (pc' := 109) (tgt := 131) dX12_owing_106 (by decide) rfl (fun hc106 => ?_) (fun hc106 => ?_)
        · have H := H.1 hc106
          refine ax_iload (pc' := 133) dX12_owing_131 rfl rfl ?_
          refine ax_istore (pc' := 135) dX12_owing_133 rfl rfl rfl ?_
          refine ax_iload (pc' := 137) dX12_owing_135 rfl rfl ?_
          refine ax_if_ne (pc' := 140) (tgt := 151) dX12_owing_137 (by decide) rfl (fun hc137 => ?_) (fun hc137 => ?_)
          · have H := H.1 hc137
            refine ax_iload (pc' := 153) dX12_owing_151 rfl rfl ?_
            refine ax_istore (pc' := 155) dX12_owing_153 rfl rfl rfl ?_
            refine ax_iinc (pc' := 158) (v := (x4 + (1 : Int32))) dX12_owing_155 rfl rfl rfl rfl rfl ?_
            refine ax_iinc (pc' := 161) (v := (x8 + (1 : Int32))) dX12_owing_158 rfl rfl rfl rfl rfl ?_
            refine ax_goto (tgt := 71) dX12_owing_161 (by decide) ?_
            exact H
          · have H := H.2 hc137
            refine ax_bipush (pc' := 142) (v := (10 : Int32)) dX12_owing_140 (by decide) rfl ?_
            refine ax_iload (pc' := 144) dX12_owing_142 rfl rfl ?_
            refine ax_imul (pc' := 145) dX12_owing_144 rfl ?_
            refine ax_iload (pc' := 147) dX12_owing_145 rfl rfl ?_
            refine ax_iadd (pc' := 148) dX12_owing_147 rfl ?_
            refine ax_goto (tgt := 153) dX12_owing_148 (by decide) ?_
            refine ax_istore (pc' := 155) dX12_owing_153 rfl rfl rfl ?_
            refine ax_iinc (pc' := 158) (v := (x4 + (1 : Int32))) dX12_owing_155 rfl rfl rfl rfl rfl ?_
            refine ax_iinc (pc' := 161) (v := (x8 + (1 : Int32))) dX12_owing_158 rfl rfl rfl rfl rfl ?_
            refine ax_goto (tgt := 71) dX12_owing_161 (by decide) ?_
            exact H
        · have H := H.2 hc106
          refine ax_iload (pc' := 111) dX12_owing_109 rfl rfl ?_
          refine ax_iload (pc' := 113) dX12_owing_111 rfl rfl ?_
          refine ax_iload_n (pc' := 114) dX12_owing_113 rfl rfl ?_
          refine ax_iload_n (pc' := 115) dX12_owing_114 rfl rfl ?_
          refine ay_S4 (pc' := 118) (ce' := 0) (sl' := 0) (mc2 := 0) (ms2 := 0) (I2 := i_X12_hasBy) dX12_owing_115 ml_X12_384 rfl rfl rfl rfl rfl rfl rfl rfl (ac_M.imp (o_X12_hasBy _ f7 x8 f1 f2 H) ?_)
          rintro _ _ ⟨r115, s115, rfl, rfl, H⟩
          refine ax_iload (pc' := 120) dX12_owing_118 rfl rfl ?_
          refine ax_iload (pc' := 122) dX12_owing_120 rfl rfl ?_
          refine ax_iload_n (pc' := 123) dX12_owing_122 rfl rfl ?_
          refine ax_iload_n (pc' := 124) dX12_owing_123 rfl rfl ?_
          refine ay_S4 (pc' := 127) (ce' := 0) (sl' := 0) (mc2 := 0) (ms2 := 0) (I2 := i_X12_hasBy) dX12_owing_124 ml_X12_384 rfl rfl rfl rfl rfl rfl rfl rfl (ac_M.imp (o_X12_hasBy _ x8 f7 f1 f2 H) ?_)
          rintro _ _ ⟨r124, s124, rfl, rfl, H⟩
          refine ax_iadd (pc' := 128) dX12_owing_127 rfl ?_
          refine ax_goto (tgt := 133) dX12_owing_128 (by decide) ?_
          refine ax_istore (pc' := 135) dX12_owing_133 rfl rfl rfl ?_
          refine ax_iload (pc' := 137) dX12_owing_135 rfl rfl ?_
          refine ax_if_ne (pc' := 140) (tgt := 151) dX12_owing_137 (by decide) rfl (fun hc137 => ?_) (fun hc137 => ?_)
          · have H := H.1 hc137
            refine ax_iload (pc' := 153) dX12_owing_151 rfl rfl ?_
            refine ax_istore (pc' := 155) dX12_owing_153 rfl rfl rfl ?_
            refine ax_iinc (pc' := 158) (v := (x4 + (1 : Int32))) dX12_owing_155 rfl rfl rfl rfl rfl ?_
            refine ax_iinc (pc' := 161) (v := (x8 + (1 : Int32))) dX12_owing_158 rfl rfl rfl rfl rfl ?_
            refine ax_goto (tgt := 71) dX12_owing_161 (by decide) ?_
            exact H
          · have H := H.2 hc137
            refine ax_bipush (pc' := 142) (v := (10 : Int32)) dX12_owing_140 (by decide) rfl ?_
            refine ax_iload (pc' := 144) dX12_owing_142 rfl rfl ?_
            refine ax_imul (pc' := 145) dX12_owing_144 rfl ?_
            refine ax_iload (pc' := 147) dX12_owing_145 rfl rfl ?_
            refine ax_iadd (pc' := 148) dX12_owing_147 rfl ?_
            refine ax_goto (tgt := 153) dX12_owing_148 (by decide) ?_
            refine ax_istore (pc' := 155) dX12_owing_153 rfl rfl rfl ?_
            refine ax_iinc (pc' := 158) (v := (x4 + (1 : Int32))) dX12_owing_155 rfl rfl rfl rfl rfl ?_
            refine ax_iinc (pc' := 161) (v := (x8 + (1 : Int32))) dX12_owing_158 rfl rfl rfl rfl rfl ?_
            refine ax_goto (tgt := 71) dX12_owing_161 (by decide) ?_
            exact H
      · have H := H.2 hc98
        refine ax_goto (tgt := 158) dX12_owing_101 (by decide) ?_
        refine ax_iinc (pc' := 161) (v := (x8 + (1 : Int32))) dX12_owing_158 rfl rfl rfl rfl rfl ?_
        refine ax_goto (tgt := 71) dX12_owing_161 (by decide) ?_
        exact H
theorem ol_X12_owing_62 {g : ac_G} {τ : Nat → Nat → Int64} (d : Nat) (p1 : Int32) (p2 : Int32) (p3 : Int32) {Q : Int32 → ac_m → Prop}  (f1 : Int32) (f2 : Int32) (f3 : Int32)  {x4 : Int32} {x5 : Int32} {x6 : Int32} {x7 : Int32} {s : ac_m} (H : l_X12_owing_62 p1 p2 p3 Q  f1 f2 f3  x4 x5 x6 x7 s) : ac_X g i_X12_owing (d + 2) 0 0 (liI τ Q) 0 0 62 [none, some (.int f1), some (.int f2), some (.int f3), some (.int x4), some (.int x5), some (.int x6), some (.int x7), none] [] (false, 586, SH, s, τ) := by
  refine H (fun x4 x5 x6 x7 s => ac_X g i_X12_owing (d + 2) 0 0 (liI τ Q) 0 0 62 [none, some (.int f1), some (.int f2), some (.int f3), some (.int x4), some (.int x5), some (.int x6), some (.int x7), none] [] (false, 586, SH, s, τ)) ?_
  intro x4 x5 x6 x7 s H
  refine ax_iload (pc' := 64) dX12_owing_62 rfl rfl ?_
  refine ax_iconst (pc' := 65) (v := (2 : Int32)) dX12_owing_64 (by decide) rfl ?_
  refine ax_icmp_ge (pc' := 68) (tgt := 170) dX12_owing_65 (by decide) rfl (fun hc65 => ?_) (fun hc65 => ?_)
  · have H := H.1 hc65
    refine ax_iload_n (pc' := 171) dX12_owing_170 rfl rfl ?_
    refine ax_if_ne (pc' := 174) (tgt := 179) dX12_owing_171 (by decide) rfl (fun hc171 => ?_) (fun hc171 => ?_)
    · have H := H.1 hc171
      refine ax_iload_n (pc' := 180) dX12_owing_179 rfl rfl ?_
      refine ax_iconst (pc' := 181) (v := (1 : Int32)) dX12_owing_180 (by decide) rfl ?_
      refine ax_icmp_ne (pc' := 184) (tgt := 189) dX12_owing_181 (by decide) rfl (fun hc181 => ?_) (fun hc181 => ?_)
      · have H := H.1 hc181
        refine ax_iload (pc' := 191) dX12_owing_189 rfl rfl ?_
        exact ax_iret dX12_owing_191 rfl rfl rfl ⟨_, _, rfl, rfl, H⟩
      · have H := H.2 hc181
        refine ax_iload (pc' := 186) dX12_owing_184 rfl rfl ?_
        refine ax_goto (tgt := 191) dX12_owing_186 (by decide) ?_
        exact ax_iret dX12_owing_191 rfl rfl rfl ⟨_, _, rfl, rfl, H⟩
    · have H := H.2 hc171
      refine ax_iload (pc' := 176) dX12_owing_174 rfl rfl ?_
      refine ax_goto (tgt := 191) dX12_owing_176 (by decide) ?_
      exact ax_iret dX12_owing_191 rfl rfl rfl ⟨_, _, rfl, rfl, H⟩
  · have H := H.2 hc65
    refine ax_iconst (pc' := 69) (v := (0 : Int32)) dX12_owing_68 (by decide) rfl ?_
    refine ax_istore (pc' := 71) dX12_owing_69 rfl rfl rfl ?_
    refine ol_X12_owing_71 d p1 p2 p3  _ _ _ _   ?_ H
    · intro z71_4 z71_5 z71_6 sk71 H
      refine ax_iinc (pc' := 167) (v := (x7 + (1 : Int32))) dX12_owing_164 rfl rfl rfl rfl rfl ?_
      refine ax_goto (tgt := 62) dX12_owing_167 (by decide) ?_
      exact H
theorem o_X12_owing {g : ac_G} {τ : Nat → Nat → Int64} (d : Nat) (p1 : Int32) (p2 : Int32) (p3 : Int32) {Q : Int32 → ac_m → Prop} {s : ac_m} (H : w_X12_owing p1 p2 p3 Q s) : ac_M g i_X12_owing (d + 2) 0 0 [.ref 69, .int p1, .int p2, .int p3] (false, 586, SH, s, τ) (liI τ Q) := by
  refine ac_ofX (by decide +kernel) rfl rfl rfl ?_
  refine ax_aload_n (pc' := 1) dX12_owing_0 rfl rfl ?_
  refine ax_iconst (pc' := 2) (v := (0 : Int32)) dX12_owing_1 (by decide) rfl ?_
  refine ax_putI (pc' := 5) dX12_owing_2 fp_X12_104 sh_69 rfl rfl rfl ?_
  refine ax_aload_n (pc' := 6) dX12_owing_5 rfl rfl ?_
  refine ax_iload_n (pc' := 7) dX12_owing_6 rfl rfl ?_
  refine ax_iconst (pc' := 8) (v := (0 : Int32)) dX12_owing_7 (by decide) rfl ?_
  refine ax_bipush (pc' := 10) (v := (99 : Int32)) dX12_owing_8 (by decide) rfl ?_
  refine ay_S3 (pc' := 13) (ce' := 0) (sl' := 0) (mc2 := 0) (ms2 := 0) (I2 := i_X12_in) dX12_owing_10 ml_X12_138 rfl rfl rfl rfl rfl rfl rfl rfl (ac_M.imp (o_X12_in _ p1 (0 : Int32) (99 : Int32) H) ?_)
  rintro _ _ ⟨r10, s10, rfl, rfl, H⟩
  refine ax_if_eq (pc' := 16) (tgt := 35) dX12_owing_13 (by decide) rfl (fun hc13 => ?_) (fun hc13 => ?_)
  · have H := H.1 hc13
    refine ax_iconst (pc' := 36) (v := (1 : Int32)) dX12_owing_35 (by decide) rfl ?_
    refine ax_goto (tgt := 40) dX12_owing_36 (by decide) ?_
    refine ax_iconst (pc' := 41) (v := (1 : Int32)) dX12_owing_40 (by decide) rfl ?_
    refine ax_iconst (pc' := 42) (v := (1 : Int32)) dX12_owing_41 (by decide) rfl ?_
    refine ay_V3 (pc' := 45) (ce' := 0) (sl' := 0) (mc2 := 0) (ms2 := 0) (I2 := i_X12_bad) dX12_owing_42 ml_X12_183 sh_69 (by decide) rfl rfl rfl rfl rfl rfl rfl rfl rfl (ac_M.imp (o_X12_bad _ (1 : Int32) (1 : Int32) (1 : Int32) H) ?_)
    rintro _ _ ⟨r42, s42, rfl, rfl, H⟩
    refine ax_if_eq (pc' := 48) (tgt := 50) dX12_owing_45 (by decide) rfl (fun hc45 => ?_) (fun hc45 => ?_)
    · have H := H.1 hc45
      refine ax_iconst (pc' := 51) (v := (0 : Int32)) dX12_owing_50 (by decide) rfl ?_
      refine ax_istore (pc' := 53) dX12_owing_51 rfl rfl rfl ?_
      refine ax_iconst (pc' := 54) (v := (-1 : Int32)) dX12_owing_53 (by decide) rfl ?_
      refine ax_istore (pc' := 56) dX12_owing_54 rfl rfl rfl ?_
      refine ax_iconst (pc' := 57) (v := (0 : Int32)) dX12_owing_56 (by decide) rfl ?_
      refine ax_istore (pc' := 59) dX12_owing_57 rfl rfl rfl ?_
      refine ax_iconst (pc' := 60) (v := (0 : Int32)) dX12_owing_59 (by decide) rfl ?_
      refine ax_istore (pc' := 62) dX12_owing_60 rfl rfl rfl ?_
      refine ax_drop 0 rfl ?_
      refine ol_X12_owing_62 d p1 p2 p3  _ _ _    H
    · have H := H.2 hc45
      refine ax_iconst (pc' := 49) (v := (0 : Int32)) dX12_owing_48 (by decide) rfl ?_
      exact ax_iret dX12_owing_49 rfl rfl rfl ⟨_, _, rfl, rfl, H⟩
  · have H := H.2 hc13
    refine ax_iload_n (pc' := 17) dX12_owing_16 rfl rfl ?_
    refine ax_iconst (pc' := 18) (v := (0 : Int32)) dX12_owing_17 (by decide) rfl ?_
    refine ax_bipush (pc' := 20) (v := (99 : Int32)) dX12_owing_18 (by decide) rfl ?_
    refine ay_S3 (pc' := 23) (ce' := 0) (sl' := 0) (mc2 := 0) (ms2 := 0) (I2 := i_X12_in) dX12_owing_20 ml_X12_138 rfl rfl rfl rfl rfl rfl rfl rfl (ac_M.imp (o_X12_in _ p2 (0 : Int32) (99 : Int32) H) ?_)
    rintro _ _ ⟨r20, s20, rfl, rfl, H⟩
    refine ax_if_eq (pc' := 26) (tgt := 35) dX12_owing_23 (by decide) rfl (fun hc23 => ?_) (fun hc23 => ?_)
    · have H := H.1 hc23
      refine ax_iconst (pc' := 36) (v := (1 : Int32)) dX12_owing_35 (by decide) rfl ?_
      refine ax_goto (tgt := 40) dX12_owing_36 (by decide) ?_
      refine ax_iconst (pc' := 41) (v := (1 : Int32)) dX12_owing_40 (by decide) rfl ?_
      refine ax_iconst (pc' := 42) (v := (1 : Int32)) dX12_owing_41 (by decide) rfl ?_
      refine ay_V3 (pc' := 45) (ce' := 0) (sl' := 0) (mc2 := 0) (ms2 := 0) (I2 := i_X12_bad) dX12_owing_42 ml_X12_183 sh_69 (by decide) rfl rfl rfl rfl rfl rfl rfl rfl rfl (ac_M.imp (o_X12_bad _ (1 : Int32) (1 : Int32) (1 : Int32) H) ?_)
      rintro _ _ ⟨r42, s42, rfl, rfl, H⟩
      refine ax_if_eq (pc' := 48) (tgt := 50) dX12_owing_45 (by decide) rfl (fun hc45 => ?_) (fun hc45 => ?_)
      · have H := H.1 hc45
        refine ax_iconst (pc' := 51) (v := (0 : Int32)) dX12_owing_50 (by decide) rfl ?_
        refine ax_istore (pc' := 53) dX12_owing_51 rfl rfl rfl ?_
        refine ax_iconst (pc' := 54) (v := (-1 : Int32)) dX12_owing_53 (by decide) rfl ?_
        refine ax_istore (pc' := 56) dX12_owing_54 rfl rfl rfl ?_
        refine ax_iconst (pc' := 57) (v := (0 : Int32)) dX12_owing_56 (by decide) rfl ?_
        refine ax_istore (pc' := 59) dX12_owing_57 rfl rfl rfl ?_
        refine ax_iconst (pc' := 60) (v := (0 : Int32)) dX12_owing_59 (by decide) rfl ?_
        refine ax_istore (pc' := 62) dX12_owing_60 rfl rfl rfl ?_
        refine ax_drop 0 rfl ?_
        refine ol_X12_owing_62 d p1 p2 p3  _ _ _    H
      · have H := H.2 hc45
        refine ax_iconst (pc' := 49) (v := (0 : Int32)) dX12_owing_48 (by decide) rfl ?_
        exact ax_iret dX12_owing_49 rfl rfl rfl ⟨_, _, rfl, rfl, H⟩
    · have H := H.2 hc23
      refine ax_iload_n (pc' := 27) dX12_owing_26 rfl rfl ?_
      refine ax_iconst (pc' := 28) (v := (0 : Int32)) dX12_owing_27 (by decide) rfl ?_
      refine ax_iconst (pc' := 29) (v := (2 : Int32)) dX12_owing_28 (by decide) rfl ?_
      refine ay_S3 (pc' := 32) (ce' := 0) (sl' := 0) (mc2 := 0) (ms2 := 0) (I2 := i_X12_in) dX12_owing_29 ml_X12_138 rfl rfl rfl rfl rfl rfl rfl rfl (ac_M.imp (o_X12_in _ p3 (0 : Int32) (2 : Int32) H) ?_)
      rintro _ _ ⟨r29, s29, rfl, rfl, H⟩
      refine ax_if_ne (pc' := 35) (tgt := 39) dX12_owing_32 (by decide) rfl (fun hc32 => ?_) (fun hc32 => ?_)
      · have H := H.1 hc32
        refine ax_iconst (pc' := 40) (v := (0 : Int32)) dX12_owing_39 (by decide) rfl ?_
        refine ax_iconst (pc' := 41) (v := (1 : Int32)) dX12_owing_40 (by decide) rfl ?_
        refine ax_iconst (pc' := 42) (v := (1 : Int32)) dX12_owing_41 (by decide) rfl ?_
        refine ay_V3 (pc' := 45) (ce' := 0) (sl' := 0) (mc2 := 0) (ms2 := 0) (I2 := i_X12_bad) dX12_owing_42 ml_X12_183 sh_69 (by decide) rfl rfl rfl rfl rfl rfl rfl rfl rfl (ac_M.imp (o_X12_bad _ (0 : Int32) (1 : Int32) (1 : Int32) H) ?_)
        rintro _ _ ⟨r42, s42, rfl, rfl, H⟩
        refine ax_if_eq (pc' := 48) (tgt := 50) dX12_owing_45 (by decide) rfl (fun hc45 => ?_) (fun hc45 => ?_)
        · have H := H.1 hc45
          refine ax_iconst (pc' := 51) (v := (0 : Int32)) dX12_owing_50 (by decide) rfl ?_
          refine ax_istore (pc' := 53) dX12_owing_51 rfl rfl rfl ?_
          refine ax_iconst (pc' := 54) (v := (-1 : Int32)) dX12_owing_53 (by decide) rfl ?_
          refine ax_istore (pc' := 56) dX12_owing_54 rfl rfl rfl ?_
          refine ax_iconst (pc' := 57) (v := (0 : Int32)) dX12_owing_56 (by decide) rfl ?_
          refine ax_istore (pc' := 59) dX12_owing_57 rfl rfl rfl ?_
          refine ax_iconst (pc' := 60) (v := (0 : Int32)) dX12_owing_59 (by decide) rfl ?_
          refine ax_istore (pc' := 62) dX12_owing_60 rfl rfl rfl ?_
          refine ax_drop 0 rfl ?_
          refine ol_X12_owing_62 d p1 p2 p3  _ _ _    H
        · have H := H.2 hc45
          refine ax_iconst (pc' := 49) (v := (0 : Int32)) dX12_owing_48 (by decide) rfl ?_
          exact ax_iret dX12_owing_49 rfl rfl rfl ⟨_, _, rfl, rfl, H⟩
      · have H := H.2 hc32
        refine ax_iconst (pc' := 36) (v := (1 : Int32)) dX12_owing_35 (by decide) rfl ?_
        refine ax_goto (tgt := 40) dX12_owing_36 (by decide) ?_
        refine ax_iconst (pc' := 41) (v := (1 : Int32)) dX12_owing_40 (by decide) rfl ?_
        refine ax_iconst (pc' := 42) (v := (1 : Int32)) dX12_owing_41 (by decide) rfl ?_
        refine ay_V3 (pc' := 45) (ce' := 0) (sl' := 0) (mc2 := 0) (ms2 := 0) (I2 := i_X12_bad) dX12_owing_42 ml_X12_183 sh_69 (by decide) rfl rfl rfl rfl rfl rfl rfl rfl rfl (ac_M.imp (o_X12_bad _ (1 : Int32) (1 : Int32) (1 : Int32) H) ?_)
        rintro _ _ ⟨r42, s42, rfl, rfl, H⟩
        refine ax_if_eq (pc' := 48) (tgt := 50) dX12_owing_45 (by decide) rfl (fun hc45 => ?_) (fun hc45 => ?_)
        · have H := H.1 hc45
          refine ax_iconst (pc' := 51) (v := (0 : Int32)) dX12_owing_50 (by decide) rfl ?_
          refine ax_istore (pc' := 53) dX12_owing_51 rfl rfl rfl ?_
          refine ax_iconst (pc' := 54) (v := (-1 : Int32)) dX12_owing_53 (by decide) rfl ?_
          refine ax_istore (pc' := 56) dX12_owing_54 rfl rfl rfl ?_
          refine ax_iconst (pc' := 57) (v := (0 : Int32)) dX12_owing_56 (by decide) rfl ?_
          refine ax_istore (pc' := 59) dX12_owing_57 rfl rfl rfl ?_
          refine ax_iconst (pc' := 60) (v := (0 : Int32)) dX12_owing_59 (by decide) rfl ?_
          refine ax_istore (pc' := 62) dX12_owing_60 rfl rfl rfl ?_
          refine ax_drop 0 rfl ?_
          refine ol_X12_owing_62 d p1 p2 p3  _ _ _    H
        · have H := H.2 hc45
          refine ax_iconst (pc' := 49) (v := (0 : Int32)) dX12_owing_48 (by decide) rfl ?_
          exact ax_iret dX12_owing_49 rfl rfl rfl ⟨_, _, rfl, rfl, H⟩
theorem ol_X12_home_211 {g : ac_G} (d : Nat) (p1 : Int32) (p2 : Int32) (p3 : Int32) (p4 : Int32) {Q : Int64 → ac_m → (Nat → Nat → Int64) → Prop}  (f4 : Int32) (f5 : Int64) (f7 : Int64)  {x9 : Int64} {x11 : Int64} {s : ac_m} {t : Nat → Nat → Int64} (H : l_X12_home_211 p1 p2 p3 p4 Q  f4 f5 f7  x9 x11 s t) : ac_X g i_X12_home (d + 1) 0 0 (liL2 Q) 0 0 211 [none, none, none, none, some (.int f4), some (.long f5), none, some (.long f7), none, some (.long x9), none, some (.long x11), none, none, none] [] (false, 586, SH, s, t) := by
  refine H (fun x9 x11 s t => ac_X g i_X12_home (d + 1) 0 0 (liL2 Q) 0 0 211 [none, none, none, none, some (.int f4), some (.long f5), none, some (.long f7), none, some (.long x9), none, some (.long x11), none, none, none] [] (false, 586, SH, s, t)) ?_
  intro x9 x11 s t H
  refine ax_lload (pc' := 213) dX12_home_211 rfl rfl ?_
  refine ax_lconst (pc' := 214) (v := 0) dX12_home_213 (by decide) rfl ?_
  refine ax_lcmp (pc' := 215) dX12_home_214 rfl ?_
  refine ax_if_eq (pc' := 218) (tgt := 236) dX12_home_215 (by decide) rfl (fun hc215 => ?_) (fun hc215 => ?_)
  · have H := H.1 hc215
    refine ax_iload (pc' := 238) dX12_home_236 rfl rfl ?_
    refine ax_if_ne (pc' := 241) (tgt := 249) dX12_home_238 (by decide) rfl (fun hc238 => ?_) (fun hc238 => ?_)
    · have H := H.1 hc238
      refine ax_lload (pc' := 251) dX12_home_249 rfl rfl ?_
      refine ax_lload (pc' := 253) dX12_home_251 rfl rfl ?_
      obtain ⟨hz, H⟩ := H
      refine ax_ldiv (pc' := 254) dX12_home_253 hz rfl ?_
      exact ax_lret dX12_home_254 rfl rfl rfl ⟨_, _, _, rfl, rfl, H⟩
    · have H := H.2 hc238
      refine ax_lload (pc' := 243) dX12_home_241 rfl rfl ?_
      refine ax_lload (pc' := 245) dX12_home_243 rfl rfl ?_
      obtain ⟨hz, H⟩ := H
      refine ax_ldiv (pc' := 246) dX12_home_245 hz rfl ?_
      refine ax_goto (tgt := 254) dX12_home_246 (by decide) ?_
      exact ax_lret dX12_home_254 rfl rfl rfl ⟨_, _, _, rfl, rfl, H⟩
  · have H := H.2 hc215
    refine ax_lload (pc' := 220) dX12_home_218 rfl rfl ?_
    refine ax_lload (pc' := 222) dX12_home_220 rfl rfl ?_
    obtain ⟨hz, H⟩ := H
    refine ax_lrem (pc' := 223) dX12_home_222 hz rfl ?_
    refine ax_lstore (pc' := 225) dX12_home_223 rfl rfl rfl ?_
    refine ax_lload (pc' := 227) dX12_home_225 rfl rfl ?_
    refine ax_lstore (pc' := 229) dX12_home_227 rfl rfl rfl ?_
    refine ax_lload (pc' := 231) dX12_home_229 rfl rfl ?_
    refine ax_lstore (pc' := 233) dX12_home_231 rfl rfl rfl ?_
    refine ax_goto (tgt := 211) dX12_home_233 (by decide) ?_
    refine ax_drop 13 rfl ?_
    exact H
theorem ol_X12_home_179 {g : ac_G} (d : Nat) (p1 : Int32) (p2 : Int32) (p3 : Int32) (p4 : Int32) {Q : Int64 → ac_m → (Nat → Nat → Int64) → Prop}  (f2 : Int32) (f4 : Int32) (f7 : Int64)  {x5 : Int64} {x9 : Int32} {s : ac_m} {t : Nat → Nat → Int64} (H : l_X12_home_179 p1 p2 p3 p4 Q  f2 f4 f7  x5 x9 s t) : ac_X g i_X12_home (d + 1) 0 0 (liL2 Q) 0 0 179 [some (.ref 69), none, some (.int f2), none, some (.int f4), some (.long x5), none, some (.long f7), none, some (.int x9), none, none, none, none, none] [] (false, 586, SH, s, t) := by
  refine H (fun x5 x9 s t => ac_X g i_X12_home (d + 1) 0 0 (liL2 Q) 0 0 179 [some (.ref 69), none, some (.int f2), none, some (.int f4), some (.long x5), none, some (.long f7), none, some (.int x9), none, none, none, none, none] [] (false, 586, SH, s, t)) ?_
  intro x5 x9 s t H
  refine ax_iload (pc' := 181) dX12_home_179 rfl rfl ?_
  refine ax_iload_n (pc' := 182) dX12_home_181 rfl rfl ?_
  refine ax_icmp_gt (pc' := 185) (tgt := 203) dX12_home_182 (by decide) rfl (fun hc182 => ?_) (fun hc182 => ?_)
  · have H := H.1 hc182
    refine ax_lload (pc' := 205) dX12_home_203 rfl rfl ?_
    refine ax_lstore (pc' := 207) dX12_home_205 rfl rfl rfl ?_
    refine ax_lload (pc' := 209) dX12_home_207 rfl rfl ?_
    refine ax_lstore (pc' := 211) dX12_home_209 rfl rfl rfl ?_
    refine ax_drop 0 rfl ?_
    refine ax_drop 2 rfl ?_
    refine ol_X12_home_211 d p1 p2 p3 p4  _ _ _    H
  · have H := H.2 hc182
    refine ax_lload (pc' := 187) dX12_home_185 rfl rfl ?_
    refine ax_aload_n (pc' := 188) dX12_home_187 rfl rfl ?_
    refine ax_getR (pc' := 191) dX12_home_188 fl_X12_94 sh_69 rfl rfl rfl ?_
    refine ax_iload (pc' := 193) dX12_home_191 rfl rfl ?_
    obtain ⟨hj193, H⟩ := H
    refine ax_lald (pc' := 194) dX12_home_193 sh_584 hj193 rfl rfl ?_
    refine ax_ladd (pc' := 195) dX12_home_194 rfl ?_
    refine ax_lstore (pc' := 197) dX12_home_195 rfl rfl rfl ?_
    refine ax_iinc (pc' := 200) (v := (x9 + (1 : Int32))) dX12_home_197 rfl rfl rfl rfl rfl ?_
    refine ax_goto (tgt := 179) dX12_home_200 (by decide) ?_
    exact H
theorem ol_X12_home_107 {g : ac_G} (d : Nat) (p1 : Int32) (p2 : Int32) (p3 : Int32) (p4 : Int32) {Q : Int64 → ac_m → (Nat → Nat → Int64) → Prop} {K160 : ac_m → (Nat → Nat → Int64) → Prop} (f1 : Int32) (f2 : Int32) (f3 : Int32) (f4 : Int32) (f5 : Int32)  {x6 : Int32} {s : ac_m} {t : Nat → Nat → Int64} (hK160 : ∀  (s : ac_m) (t : Nat → Nat → Int64), K160  s t → ac_X g i_X12_home (d + 1) 0 0 (liL2 Q) 0 0 160 [some (.ref 69), some (.int f1), some (.int f2), some (.int f3), some (.int f4), some (.int f5), none, none, none, none, none, none, none, none, none] [] (false, 586, SH, s, t)) (H : l_X12_home_107 p1 p2 p3 p4 Q K160 f1 f2 f3 f4 f5  x6 s t) : ac_X g i_X12_home (d + 1) 0 0 (liL2 Q) 0 0 107 [some (.ref 69), some (.int f1), some (.int f2), some (.int f3), some (.int f4), some (.int f5), some (.int x6), none, none, none, none, none, none, none, none] [] (false, 586, SH, s, t) := by
  refine H (fun x6 s t => ac_X g i_X12_home (d + 1) 0 0 (liL2 Q) 0 0 107 [some (.ref 69), some (.int f1), some (.int f2), some (.int f3), some (.int f4), some (.int f5), some (.int x6), none, none, none, none, none, none, none, none] [] (false, 586, SH, s, t)) ?_
  intro x6 s t H
  refine ax_iload (pc' := 109) dX12_home_107 rfl rfl ?_
  refine ax_if_lt (pc' := 112) (tgt := 160) dX12_home_109 (by decide) rfl (fun hc109 => ?_) (fun hc109 => ?_)
  · have H := H.1 hc109
    refine ax_drop 6 rfl ?_
    exact hK160 _ _ H
  · have H := H.2 hc109
    refine ax_aload_n (pc' := 113) dX12_home_112 rfl rfl ?_
    refine ax_getR (pc' := 116) dX12_home_113 fl_X12_94 sh_69 rfl rfl rfl ?_
    refine ax_iload (pc' := 118) dX12_home_116 rfl rfl ?_
    refine ax_aload_n (pc' := 119) dX12_home_118 rfl rfl ?_
    refine ax_getR (pc' := 122) dX12_home_119 fl_X12_94 sh_69 rfl rfl rfl ?_
    refine ax_iload (pc' := 124) dX12_home_122 rfl rfl ?_
    obtain ⟨hj124, H⟩ := H
    refine ax_lald (pc' := 125) dX12_home_124 sh_584 hj124 rfl rfl ?_
    refine ax_iload_n (pc' := 126) dX12_home_125 rfl rfl ?_
    refine ax_i2l (pc' := 127) dX12_home_126 rfl ?_
    refine ax_lmul (pc' := 128) dX12_home_127 rfl ?_
    refine ax_iload (pc' := 130) dX12_home_128 rfl rfl ?_
    refine ax_if_le (pc' := 133) (tgt := 151) dX12_home_130 (by decide) rfl (fun hc130 => ?_) (fun hc130 => ?_)
    · have H := H.1 hc130
      refine ax_lconst (pc' := 152) (v := 0) dX12_home_151 (by decide) rfl ?_
      refine ax_ladd (pc' := 153) dX12_home_152 rfl ?_
      obtain ⟨hj153, H⟩ := H
      refine ax_last (pc' := 154) dX12_home_153 sh_584 hj153 rfl rfl ?_
      refine ax_iinc (pc' := 157) (v := (x6 + (-1 : Int32))) dX12_home_154 rfl rfl rfl rfl rfl ?_
      refine ax_goto (tgt := 107) dX12_home_157 (by decide) ?_
      exact H
    · have H := H.2 hc130
      refine ax_aload_n (pc' := 134) dX12_home_133 rfl rfl ?_
      refine ax_getR (pc' := 137) dX12_home_134 fl_X12_94 sh_69 rfl rfl rfl ?_
      refine ax_iload (pc' := 139) dX12_home_137 rfl rfl ?_
      refine ax_iconst (pc' := 140) (v := (1 : Int32)) dX12_home_139 (by decide) rfl ?_
      refine ax_isub (pc' := 141) dX12_home_140 rfl ?_
      obtain ⟨hj141, H⟩ := H
      refine ax_lald (pc' := 142) dX12_home_141 sh_584 hj141 rfl rfl ?_
      refine ax_bipush (pc' := 144) (v := (16 : Int32)) dX12_home_142 (by decide) rfl ?_
      refine ax_iload_n (pc' := 145) dX12_home_144 rfl rfl ?_
      refine ax_isub (pc' := 146) dX12_home_145 rfl ?_
      refine ax_i2l (pc' := 147) dX12_home_146 rfl ?_
      refine ax_lmul (pc' := 148) dX12_home_147 rfl ?_
      refine ax_goto (tgt := 152) dX12_home_148 (by decide) ?_
      refine ax_ladd (pc' := 153) dX12_home_152 rfl ?_
      obtain ⟨hj153, H⟩ := H
      refine ax_last (pc' := 154) dX12_home_153 sh_584 hj153 rfl rfl ?_
      refine ax_iinc (pc' := 157) (v := (x6 + (-1 : Int32))) dX12_home_154 rfl rfl rfl rfl rfl ?_
      refine ax_goto (tgt := 107) dX12_home_157 (by decide) ?_
      exact H
theorem ol_X12_home_97 {g : ac_G} (d : Nat) (p1 : Int32) (p2 : Int32) (p3 : Int32) (p4 : Int32) {Q : Int64 → ac_m → (Nat → Nat → Int64) → Prop}  (f1 : Int32) (f2 : Int32) (f3 : Int32) (f4 : Int32)  {x5 : Int32} {s : ac_m} {t : Nat → Nat → Int64} (H : l_X12_home_97 p1 p2 p3 p4 Q  f1 f2 f3 f4  x5 s t) : ac_X g i_X12_home (d + 1) 0 0 (liL2 Q) 0 0 97 [some (.ref 69), some (.int f1), some (.int f2), some (.int f3), some (.int f4), some (.int x5), none, none, none, none, none, none, none, none, none] [] (false, 586, SH, s, t) := by
  refine H (fun x5 s t => ac_X g i_X12_home (d + 1) 0 0 (liL2 Q) 0 0 97 [some (.ref 69), some (.int f1), some (.int f2), some (.int f3), some (.int f4), some (.int x5), none, none, none, none, none, none, none, none, none] [] (false, 586, SH, s, t)) ?_
  intro x5 s t H
  refine ax_iload (pc' := 99) dX12_home_97 rfl rfl ?_
  refine ax_iload_n (pc' := 100) dX12_home_99 rfl rfl ?_
  refine ax_icmp_ge (pc' := 103) (tgt := 166) dX12_home_100 (by decide) rfl (fun hc100 => ?_) (fun hc100 => ?_)
  · have H := H.1 hc100
    refine ax_lconst (pc' := 167) (v := 0) dX12_home_166 (by decide) rfl ?_
    refine ax_lstore (pc' := 169) dX12_home_167 rfl rfl rfl ?_
    refine ax_lconst (pc' := 170) (v := 1) dX12_home_169 (by decide) rfl ?_
    refine ax_iconst (pc' := 171) (v := (4 : Int32)) dX12_home_170 (by decide) rfl ?_
    refine ax_iload_n (pc' := 172) dX12_home_171 rfl rfl ?_
    refine ax_imul (pc' := 173) dX12_home_172 rfl ?_
    refine ax_lshl (pc' := 174) dX12_home_173 rfl ?_
    refine ax_lstore (pc' := 176) dX12_home_174 rfl rfl rfl ?_
    refine ax_iconst (pc' := 177) (v := (0 : Int32)) dX12_home_176 (by decide) rfl ?_
    refine ax_istore (pc' := 179) dX12_home_177 rfl rfl rfl ?_
    refine ax_drop 1 rfl ?_
    refine ax_drop 3 rfl ?_
    refine ol_X12_home_179 d p1 p2 p3 p4  _ _ _    H
  · have H := H.2 hc100
    refine ax_bipush (pc' := 105) (v := (13 : Int32)) dX12_home_103 (by decide) rfl ?_
    refine ax_istore (pc' := 107) dX12_home_105 rfl rfl rfl ?_
    refine ol_X12_home_107 d p1 p2 p3 p4  _ _ _ _ _   ?_ H
    · intro  sk107 tk107 H
      refine ax_iinc (pc' := 163) (v := (x5 + (1 : Int32))) dX12_home_160 rfl rfl rfl rfl rfl ?_
      refine ax_goto (tgt := 97) dX12_home_163 (by decide) ?_
      exact H
theorem ol_X12_home_64 {g : ac_G} (d : Nat) (p1 : Int32) (p2 : Int32) (p3 : Int32) (p4 : Int32) {Q : Int64 → ac_m → (Nat → Nat → Int64) → Prop}  (f1 : Int32) (f2 : Int32) (f3 : Int32) (f4 : Int32)  {x5 : Int32} {s : ac_m} {t : Nat → Nat → Int64} (H : l_X12_home_64 p1 p2 p3 p4 Q  f1 f2 f3 f4  x5 s t) : ac_X g i_X12_home (d + 1) 0 0 (liL2 Q) 0 0 64 [some (.ref 69), some (.int f1), some (.int f2), some (.int f3), some (.int f4), some (.int x5), none, none, none, none, none, none, none, none, none] [] (false, 586, SH, s, t) := by
  refine H (fun x5 s t => ac_X g i_X12_home (d + 1) 0 0 (liL2 Q) 0 0 64 [some (.ref 69), some (.int f1), some (.int f2), some (.int f3), some (.int f4), some (.int x5), none, none, none, none, none, none, none, none, none] [] (false, 586, SH, s, t)) ?_
  intro x5 s t H
  refine ax_iload (pc' := 66) dX12_home_64 rfl rfl ?_
  refine ax_bipush (pc' := 68) (v := (14 : Int32)) dX12_home_66 (by decide) rfl ?_
  refine ax_icmp_ge (pc' := 71) (tgt := 94) dX12_home_68 (by decide) rfl (fun hc68 => ?_) (fun hc68 => ?_)
  · have H := H.1 hc68
    refine ax_iconst (pc' := 95) (v := (0 : Int32)) dX12_home_94 (by decide) rfl ?_
    refine ax_istore (pc' := 97) dX12_home_95 rfl rfl rfl ?_
    refine ol_X12_home_97 d p1 p2 p3 p4  _ _ _ _    H
  · have H := H.2 hc68
    refine ax_aload_n (pc' := 72) dX12_home_71 rfl rfl ?_
    refine ax_getR (pc' := 75) dX12_home_72 fl_X12_94 sh_69 rfl rfl rfl ?_
    refine ax_iload (pc' := 77) dX12_home_75 rfl rfl ?_
    refine ax_iload (pc' := 79) dX12_home_77 rfl rfl ?_
    refine ax_if_ne (pc' := 82) (tgt := 86) dX12_home_79 (by decide) rfl (fun hc79 => ?_) (fun hc79 => ?_)
    · have H := H.1 hc79
      refine ax_lconst (pc' := 87) (v := 0) dX12_home_86 (by decide) rfl ?_
      obtain ⟨hj87, H⟩ := H
      refine ax_last (pc' := 88) dX12_home_87 sh_584 hj87 rfl rfl ?_
      refine ax_iinc (pc' := 91) (v := (x5 + (1 : Int32))) dX12_home_88 rfl rfl rfl rfl rfl ?_
      refine ax_goto (tgt := 64) dX12_home_91 (by decide) ?_
      exact H
    · have H := H.2 hc79
      refine ax_lconst (pc' := 83) (v := 1) dX12_home_82 (by decide) rfl ?_
      refine ax_goto (tgt := 87) dX12_home_83 (by decide) ?_
      obtain ⟨hj87, H⟩ := H
      refine ax_last (pc' := 88) dX12_home_87 sh_584 hj87 rfl rfl ?_
      refine ax_iinc (pc' := 91) (v := (x5 + (1 : Int32))) dX12_home_88 rfl rfl rfl rfl rfl ?_
      refine ax_goto (tgt := 64) dX12_home_91 (by decide) ?_
      exact H
theorem o_X12_home {g : ac_G} (d : Nat) (p1 : Int32) (p2 : Int32) (p3 : Int32) (p4 : Int32) {Q : Int64 → ac_m → (Nat → Nat → Int64) → Prop} {s : ac_m} {t : Nat → Nat → Int64} (H : w_X12_home p1 p2 p3 p4 Q s t) : ac_M g i_X12_home (d + 1) 0 0 [.ref 69, .int p1, .int p2, .int p3, .int p4] (false, 586, SH, s, t) (liL2 Q) := by
  refine ac_ofX (by decide +kernel) rfl rfl rfl ?_
  refine ax_aload_n (pc' := 1) dX12_home_0 rfl rfl ?_
  refine ax_iconst (pc' := 2) (v := (0 : Int32)) dX12_home_1 (by decide) rfl ?_
  refine ax_putI (pc' := 5) dX12_home_2 fp_X12_104 sh_69 rfl rfl rfl ?_
  refine ax_aload_n (pc' := 6) dX12_home_5 rfl rfl ?_
  refine ax_iload_n (pc' := 7) dX12_home_6 rfl rfl ?_
  refine ax_iconst (pc' := 8) (v := (0 : Int32)) dX12_home_7 (by decide) rfl ?_
  refine ax_bipush (pc' := 10) (v := (12 : Int32)) dX12_home_8 (by decide) rfl ?_
  refine ay_S3 (pc' := 13) (ce' := 0) (sl' := 0) (mc2 := 0) (ms2 := 0) (I2 := i_X12_in) dX12_home_10 ml_X12_138 rfl rfl rfl rfl rfl rfl rfl rfl (ac_M.imp (o_X12_in _ p1 (0 : Int32) (12 : Int32) H) ?_)
  rintro _ _ ⟨r10, s10, rfl, rfl, H⟩
  refine ax_if_eq (pc' := 16) (tgt := 46) dX12_home_13 (by decide) rfl (fun hc13 => ?_) (fun hc13 => ?_)
  · have H := H.1 hc13
    refine ax_iconst (pc' := 47) (v := (1 : Int32)) dX12_home_46 (by decide) rfl ?_
    refine ax_goto (tgt := 51) dX12_home_47 (by decide) ?_
    refine ax_iconst (pc' := 52) (v := (1 : Int32)) dX12_home_51 (by decide) rfl ?_
    refine ax_iconst (pc' := 53) (v := (1 : Int32)) dX12_home_52 (by decide) rfl ?_
    refine ay_V3 (pc' := 56) (ce' := 0) (sl' := 0) (mc2 := 0) (ms2 := 0) (I2 := i_X12_bad) dX12_home_53 ml_X12_183 sh_69 (by decide) rfl rfl rfl rfl rfl rfl rfl rfl rfl (ac_M.imp (o_X12_bad _ (1 : Int32) (1 : Int32) (1 : Int32) H) ?_)
    rintro _ _ ⟨r53, s53, rfl, rfl, H⟩
    refine ax_if_eq (pc' := 59) (tgt := 61) dX12_home_56 (by decide) rfl (fun hc56 => ?_) (fun hc56 => ?_)
    · have H := H.1 hc56
      refine ax_iconst (pc' := 62) (v := (0 : Int32)) dX12_home_61 (by decide) rfl ?_
      refine ax_istore (pc' := 64) dX12_home_62 rfl rfl rfl ?_
      refine ol_X12_home_64 d p1 p2 p3 p4  _ _ _ _    H
    · have H := H.2 hc56
      refine ax_lconst (pc' := 60) (v := 0) dX12_home_59 (by decide) rfl ?_
      exact ax_lret dX12_home_60 rfl rfl rfl ⟨_, _, _, rfl, rfl, H⟩
  · have H := H.2 hc13
    refine ax_iload_n (pc' := 17) dX12_home_16 rfl rfl ?_
    refine ax_iconst (pc' := 18) (v := (0 : Int32)) dX12_home_17 (by decide) rfl ?_
    refine ax_bipush (pc' := 20) (v := (12 : Int32)) dX12_home_18 (by decide) rfl ?_
    refine ay_S3 (pc' := 23) (ce' := 0) (sl' := 0) (mc2 := 0) (ms2 := 0) (I2 := i_X12_in) dX12_home_20 ml_X12_138 rfl rfl rfl rfl rfl rfl rfl rfl (ac_M.imp (o_X12_in _ p2 (0 : Int32) (12 : Int32) H) ?_)
    rintro _ _ ⟨r20, s20, rfl, rfl, H⟩
    refine ax_if_eq (pc' := 26) (tgt := 46) dX12_home_23 (by decide) rfl (fun hc23 => ?_) (fun hc23 => ?_)
    · have H := H.1 hc23
      refine ax_iconst (pc' := 47) (v := (1 : Int32)) dX12_home_46 (by decide) rfl ?_
      refine ax_goto (tgt := 51) dX12_home_47 (by decide) ?_
      refine ax_iconst (pc' := 52) (v := (1 : Int32)) dX12_home_51 (by decide) rfl ?_
      refine ax_iconst (pc' := 53) (v := (1 : Int32)) dX12_home_52 (by decide) rfl ?_
      refine ay_V3 (pc' := 56) (ce' := 0) (sl' := 0) (mc2 := 0) (ms2 := 0) (I2 := i_X12_bad) dX12_home_53 ml_X12_183 sh_69 (by decide) rfl rfl rfl rfl rfl rfl rfl rfl rfl (ac_M.imp (o_X12_bad _ (1 : Int32) (1 : Int32) (1 : Int32) H) ?_)
      rintro _ _ ⟨r53, s53, rfl, rfl, H⟩
      refine ax_if_eq (pc' := 59) (tgt := 61) dX12_home_56 (by decide) rfl (fun hc56 => ?_) (fun hc56 => ?_)
      · have H := H.1 hc56
        refine ax_iconst (pc' := 62) (v := (0 : Int32)) dX12_home_61 (by decide) rfl ?_
        refine ax_istore (pc' := 64) dX12_home_62 rfl rfl rfl ?_
        refine ol_X12_home_64 d p1 p2 p3 p4  _ _ _ _    H
      · have H := H.2 hc56
        refine ax_lconst (pc' := 60) (v := 0) dX12_home_59 (by decide) rfl ?_
        exact ax_lret dX12_home_60 rfl rfl rfl ⟨_, _, _, rfl, rfl, H⟩
    · have H := H.2 hc23
      refine ax_iload_n (pc' := 27) dX12_home_26 rfl rfl ?_
      refine ax_iconst (pc' := 28) (v := (0 : Int32)) dX12_home_27 (by decide) rfl ?_
      refine ax_bipush (pc' := 30) (v := (16 : Int32)) dX12_home_28 (by decide) rfl ?_
      refine ay_S3 (pc' := 33) (ce' := 0) (sl' := 0) (mc2 := 0) (ms2 := 0) (I2 := i_X12_in) dX12_home_30 ml_X12_138 rfl rfl rfl rfl rfl rfl rfl rfl (ac_M.imp (o_X12_in _ p3 (0 : Int32) (16 : Int32) H) ?_)
      rintro _ _ ⟨r30, s30, rfl, rfl, H⟩
      refine ax_if_eq (pc' := 36) (tgt := 46) dX12_home_33 (by decide) rfl (fun hc33 => ?_) (fun hc33 => ?_)
      · have H := H.1 hc33
        refine ax_iconst (pc' := 47) (v := (1 : Int32)) dX12_home_46 (by decide) rfl ?_
        refine ax_goto (tgt := 51) dX12_home_47 (by decide) ?_
        refine ax_iconst (pc' := 52) (v := (1 : Int32)) dX12_home_51 (by decide) rfl ?_
        refine ax_iconst (pc' := 53) (v := (1 : Int32)) dX12_home_52 (by decide) rfl ?_
        refine ay_V3 (pc' := 56) (ce' := 0) (sl' := 0) (mc2 := 0) (ms2 := 0) (I2 := i_X12_bad) dX12_home_53 ml_X12_183 sh_69 (by decide) rfl rfl rfl rfl rfl rfl rfl rfl rfl (ac_M.imp (o_X12_bad _ (1 : Int32) (1 : Int32) (1 : Int32) H) ?_)
        rintro _ _ ⟨r53, s53, rfl, rfl, H⟩
        refine ax_if_eq (pc' := 59) (tgt := 61) dX12_home_56 (by decide) rfl (fun hc56 => ?_) (fun hc56 => ?_)
        · have H := H.1 hc56
          refine ax_iconst (pc' := 62) (v := (0 : Int32)) dX12_home_61 (by decide) rfl ?_
          refine ax_istore (pc' := 64) dX12_home_62 rfl rfl rfl ?_
          refine ol_X12_home_64 d p1 p2 p3 p4  _ _ _ _    H
        · have H := H.2 hc56
          refine ax_lconst (pc' := 60) (v := 0) dX12_home_59 (by decide) rfl ?_
          exact ax_lret dX12_home_60 rfl rfl rfl ⟨_, _, _, rfl, rfl, H⟩
      · have H := H.2 hc33
        refine ax_iload (pc' := 38) dX12_home_36 rfl rfl ?_
        refine ax_iconst (pc' := 39) (v := (0 : Int32)) dX12_home_38 (by decide) rfl ?_
        refine ax_iconst (pc' := 40) (v := (1 : Int32)) dX12_home_39 (by decide) rfl ?_
        refine ay_S3 (pc' := 43) (ce' := 0) (sl' := 0) (mc2 := 0) (ms2 := 0) (I2 := i_X12_in) dX12_home_40 ml_X12_138 rfl rfl rfl rfl rfl rfl rfl rfl (ac_M.imp (o_X12_in _ p4 (0 : Int32) (1 : Int32) H) ?_)
        rintro _ _ ⟨r40, s40, rfl, rfl, H⟩
        refine ax_if_ne (pc' := 46) (tgt := 50) dX12_home_43 (by decide) rfl (fun hc43 => ?_) (fun hc43 => ?_)
        · have H := H.1 hc43
          refine ax_iconst (pc' := 51) (v := (0 : Int32)) dX12_home_50 (by decide) rfl ?_
          refine ax_iconst (pc' := 52) (v := (1 : Int32)) dX12_home_51 (by decide) rfl ?_
          refine ax_iconst (pc' := 53) (v := (1 : Int32)) dX12_home_52 (by decide) rfl ?_
          refine ay_V3 (pc' := 56) (ce' := 0) (sl' := 0) (mc2 := 0) (ms2 := 0) (I2 := i_X12_bad) dX12_home_53 ml_X12_183 sh_69 (by decide) rfl rfl rfl rfl rfl rfl rfl rfl rfl (ac_M.imp (o_X12_bad _ (0 : Int32) (1 : Int32) (1 : Int32) H) ?_)
          rintro _ _ ⟨r53, s53, rfl, rfl, H⟩
          refine ax_if_eq (pc' := 59) (tgt := 61) dX12_home_56 (by decide) rfl (fun hc56 => ?_) (fun hc56 => ?_)
          · have H := H.1 hc56
            refine ax_iconst (pc' := 62) (v := (0 : Int32)) dX12_home_61 (by decide) rfl ?_
            refine ax_istore (pc' := 64) dX12_home_62 rfl rfl rfl ?_
            refine ol_X12_home_64 d p1 p2 p3 p4  _ _ _ _    H
          · have H := H.2 hc56
            refine ax_lconst (pc' := 60) (v := 0) dX12_home_59 (by decide) rfl ?_
            exact ax_lret dX12_home_60 rfl rfl rfl ⟨_, _, _, rfl, rfl, H⟩
        · have H := H.2 hc43
          refine ax_iconst (pc' := 47) (v := (1 : Int32)) dX12_home_46 (by decide) rfl ?_
          refine ax_goto (tgt := 51) dX12_home_47 (by decide) ?_
          refine ax_iconst (pc' := 52) (v := (1 : Int32)) dX12_home_51 (by decide) rfl ?_
          refine ax_iconst (pc' := 53) (v := (1 : Int32)) dX12_home_52 (by decide) rfl ?_
          refine ay_V3 (pc' := 56) (ce' := 0) (sl' := 0) (mc2 := 0) (ms2 := 0) (I2 := i_X12_bad) dX12_home_53 ml_X12_183 sh_69 (by decide) rfl rfl rfl rfl rfl rfl rfl rfl rfl (ac_M.imp (o_X12_bad _ (1 : Int32) (1 : Int32) (1 : Int32) H) ?_)
          rintro _ _ ⟨r53, s53, rfl, rfl, H⟩
          refine ax_if_eq (pc' := 59) (tgt := 61) dX12_home_56 (by decide) rfl (fun hc56 => ?_) (fun hc56 => ?_)
          · have H := H.1 hc56
            refine ax_iconst (pc' := 62) (v := (0 : Int32)) dX12_home_61 (by decide) rfl ?_
            refine ax_istore (pc' := 64) dX12_home_62 rfl rfl rfl ?_
            refine ol_X12_home_64 d p1 p2 p3 p4  _ _ _ _    H
          · have H := H.2 hc56
            refine ax_lconst (pc' := 60) (v := 0) dX12_home_59 (by decide) rfl ?_
            exact ax_lret dX12_home_60 rfl rfl rfl ⟨_, _, _, rfl, rfl, H⟩
