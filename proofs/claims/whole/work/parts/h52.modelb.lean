theorem ol_X12_lays_10 {g : ac_G} {τ : Nat → Nat → Int64} (d : Nat) (r1 : Nat) (n1 : Nat) (b1 : Nat) (l0 : Nat) (r2 : Nat) (n2 : Nat) (b2 : Nat) (p3 : Int32) (hr1 : SH r1 = .inl (3, n1, b1)) (hn1 : Nat.blt r1 586 = true) (hv1 : ∀ j, j < n1 → SH (b1 + j) = .inl (0, l0, 0)) (hu1 : ∀ j, j < n1 → Nat.blt (b1 + j) 586 = true) (hr2 : SH r2 = .inl (3, n2, b2)) (hn2 : Nat.blt r2 586 = true) (hv2 : ∀ j, j < n2 → SH (b2 + j) = .inl (0, l0, 0)) (hu2 : ∀ j, j < n2 → Nat.blt (b2 + j) 586 = true) {Q : ac_m → Prop} {K37 : ac_m → Prop} (f2 : Int32) (f3 : Int32)  {x4 : Int32} {s : ac_m} (hK37 : ∀  (s : ac_m), K37  s → ac_X g i_X12_lays d 0 0 (liV τ Q) 0 0 37 [some (.ref r1), some (.ref r2), some (.int f2), some (.int f3), none] [] (false, 586, SH, s, τ)) (H : l_X12_lays_10 r1 n1 b1 l0 r2 n2 b2 p3 Q K37 f2 f3  x4 s) : ac_X g i_X12_lays d 0 0 (liV τ Q) 0 0 10 [some (.ref r1), some (.ref r2), some (.int f2), some (.int f3), some (.int x4)] [] (false, 586, SH, s, τ) := by
  refine H (fun x4 s => ac_X g i_X12_lays d 0 0 (liV τ Q) 0 0 10 [some (.ref r1), some (.ref r2), some (.int f2), some (.int f3), some (.int x4)] [] (false, 586, SH, s, τ)) ?_
  intro x4 s H
  refine ax_iload (pc' := 12) dX12_lays_10 rfl rfl ?_
  refine ax_aload_n (pc' := 13) dX12_lays_12 rfl rfl ?_
  refine ax_iload_n (pc' := 14) dX12_lays_13 rfl rfl ?_
  obtain ⟨hj14, H⟩ := H
  refine ax_aald (pc' := 15) dX12_lays_14 hr2 hj14 hn2 rfl ?_
  refine ax_alen (pc' := 16) (v := (Int32.ofNat l0)) dX12_lays_15 (hv2 _ (ac_lt hj14)) rfl rfl (hu2 _ (ac_lt hj14)) rfl ?_
  refine ax_icmp_ge (pc' := 19) (tgt := 37) dX12_lays_16 (by decide) rfl (fun hc16 => ?_) (fun hc16 => ?_)
  · have H := H.1 hc16
    refine ax_drop 4 rfl ?_
    exact hK37 _ H
  · have H := H.2 hc16
    refine ax_aload_n (pc' := 20) dX12_lays_19 rfl rfl ?_
    refine ax_iload_n (pc' := 21) dX12_lays_20 rfl rfl ?_
    obtain ⟨hj21, H⟩ := H
    refine ax_aald (pc' := 22) dX12_lays_21 hr2 hj21 hn2 rfl ?_
    refine ax_iload (pc' := 24) dX12_lays_22 rfl rfl ?_
    refine ax_aload_n (pc' := 25) dX12_lays_24 rfl rfl ?_
    refine ax_iload_n (pc' := 26) dX12_lays_25 rfl rfl ?_
    obtain ⟨hj26, H⟩ := H
    refine ax_aald (pc' := 27) dX12_lays_26 hr1 hj26 hn1 rfl ?_
    refine ax_iload (pc' := 29) dX12_lays_27 rfl rfl ?_
    obtain ⟨hj29, H⟩ := H
    refine ax_iald (pc' := 30) dX12_lays_29 (hv1 _ (ac_lt hj26)) hj29 (hu1 _ (ac_lt hj26)) rfl ?_
    obtain ⟨hj30, H⟩ := H
    refine ax_iast (pc' := 31) dX12_lays_30 (hv2 _ (ac_lt hj21)) hj30 (hu2 _ (ac_lt hj21)) rfl ?_
    refine ax_iinc (pc' := 34) (v := (x4 + (1 : Int32))) dX12_lays_31 rfl rfl rfl rfl rfl ?_
    refine ax_goto (tgt := 10) dX12_lays_34 (by decide) ?_
    exact H
theorem ol_X12_lays_2 {g : ac_G} {τ : Nat → Nat → Int64} (d : Nat) (r1 : Nat) (n1 : Nat) (b1 : Nat) (l0 : Nat) (r2 : Nat) (n2 : Nat) (b2 : Nat) (p3 : Int32) (hr1 : SH r1 = .inl (3, n1, b1)) (hn1 : Nat.blt r1 586 = true) (hv1 : ∀ j, j < n1 → SH (b1 + j) = .inl (0, l0, 0)) (hu1 : ∀ j, j < n1 → Nat.blt (b1 + j) 586 = true) (hr2 : SH r2 = .inl (3, n2, b2)) (hn2 : Nat.blt r2 586 = true) (hv2 : ∀ j, j < n2 → SH (b2 + j) = .inl (0, l0, 0)) (hu2 : ∀ j, j < n2 → Nat.blt (b2 + j) 586 = true) {Q : ac_m → Prop}  (f2 : Int32)  {x3 : Int32} {s : ac_m} (H : l_X12_lays_2 r1 n1 b1 l0 r2 n2 b2 p3 Q  f2  x3 s) : ac_X g i_X12_lays d 0 0 (liV τ Q) 0 0 2 [some (.ref r1), some (.ref r2), some (.int f2), some (.int x3), none] [] (false, 586, SH, s, τ) := by
  refine H (fun x3 s => ac_X g i_X12_lays d 0 0 (liV τ Q) 0 0 2 [some (.ref r1), some (.ref r2), some (.int f2), some (.int x3), none] [] (false, 586, SH, s, τ)) ?_
  intro x3 s H
  refine ax_iload_n (pc' := 3) dX12_lays_2 rfl rfl ?_
  refine ax_iload_n (pc' := 4) dX12_lays_3 rfl rfl ?_
  refine ax_icmp_ge (pc' := 7) (tgt := 43) dX12_lays_4 (by decide) rfl (fun hc4 => ?_) (fun hc4 => ?_)
  · have H := H.1 hc4
    exact ax_vret dX12_lays_43 rfl rfl rfl ⟨_, rfl, rfl, H⟩
  · have H := H.2 hc4
    refine ax_iconst (pc' := 8) (v := (0 : Int32)) dX12_lays_7 (by decide) rfl ?_
    refine ax_istore (pc' := 10) dX12_lays_8 rfl rfl rfl ?_
    refine ol_X12_lays_10 d r1 n1 b1 l0 r2 n2 b2 p3 hr1 hn1 hv1 hu1 hr2 hn2 hv2 hu2 _ _   ?_ H
    · intro  sk10 H
      refine ax_iinc (pc' := 40) (v := (x3 + (1 : Int32))) dX12_lays_37 rfl rfl rfl rfl rfl ?_
      refine ax_goto (tgt := 2) dX12_lays_40 (by decide) ?_
      exact H
theorem o_X12_lays {g : ac_G} {τ : Nat → Nat → Int64} (d : Nat) (r1 : Nat) (n1 : Nat) (b1 : Nat) (l0 : Nat) (r2 : Nat) (n2 : Nat) (b2 : Nat) (p3 : Int32) (hr1 : SH r1 = .inl (3, n1, b1)) (hn1 : Nat.blt r1 586 = true) (hv1 : ∀ j, j < n1 → SH (b1 + j) = .inl (0, l0, 0)) (hu1 : ∀ j, j < n1 → Nat.blt (b1 + j) 586 = true) (hr2 : SH r2 = .inl (3, n2, b2)) (hn2 : Nat.blt r2 586 = true) (hv2 : ∀ j, j < n2 → SH (b2 + j) = .inl (0, l0, 0)) (hu2 : ∀ j, j < n2 → Nat.blt (b2 + j) 586 = true) {Q : ac_m → Prop} {s : ac_m} (H : w_X12_lays r1 n1 b1 l0 r2 n2 b2 p3 Q s) : ac_M g i_X12_lays d 0 0 [.ref r1, .ref r2, .int p3] (false, 586, SH, s, τ) (liV τ Q) := by
  refine ac_ofX (by decide +kernel) rfl rfl rfl ?_
  refine ax_iconst (pc' := 1) (v := (0 : Int32)) dX12_lays_0 (by decide) rfl ?_
  refine ax_istore_n (pc' := 2) dX12_lays_1 rfl rfl rfl ?_
  refine ol_X12_lays_2 d r1 n1 b1 l0 r2 n2 b2 p3 hr1 hn1 hv1 hu1 hr2 hn2 hv2 hu2 _    H
theorem o_X12_comes {g : ac_G} {τ : Nat → Nat → Int64} (d : Nat) (r1 : Nat) (p2 : Int32) (hr1 : SH r1 = .inl (0, 83, 0)) (hn1 : Nat.blt r1 586 = true) {Q : ac_m → Prop} {s : ac_m} (H : w_X12_comes r1 p2 Q s) : ac_M g i_X12_comes d 0 0 [.ref 69, .ref r1, .int p2] (false, 586, SH, s, τ) (liV τ Q) := by
  refine ac_ofX (by decide +kernel) rfl rfl rfl ?_
  refine ax_aload_n (pc' := 1) dX12_comes_0 rfl rfl ?_
  refine ax_iconst (pc' := 2) (v := (0 : Int32)) dX12_comes_1 (by decide) rfl ?_
  refine ax_iload_n (pc' := 3) dX12_comes_2 rfl rfl ?_
  refine ax_iadd (pc' := 4) dX12_comes_3 rfl ?_
  refine ax_aload_n (pc' := 5) dX12_comes_4 rfl rfl ?_
  refine ax_getR (pc' := 8) dX12_comes_5 fl_X12_37 sh_69 rfl rfl rfl ?_
  refine ax_iload_n (pc' := 9) dX12_comes_8 rfl rfl ?_
  obtain ⟨hj9, H⟩ := H
  refine ax_aald (pc' := 10) dX12_comes_9 sh_101 hj9 rfl rfl ?_
  refine ax_iconst (pc' := 11) (v := (3 : Int32)) dX12_comes_10 (by decide) rfl ?_
  refine ax_iald (pc' := 12) dX12_comes_11 (sh_r_102 _ (ac_lt hj9)) (ac_in (by decide)) (sh_n_102 _ (ac_lt hj9)) rfl ?_
  obtain ⟨hj12, H⟩ := H
  refine ax_iast (pc' := 13) dX12_comes_12 hr1 hj12 hn1 rfl ?_
  refine ax_aload_n (pc' := 14) dX12_comes_13 rfl rfl ?_
  refine ax_bipush (pc' := 16) (v := (13 : Int32)) dX12_comes_14 (by decide) rfl ?_
  refine ax_iload_n (pc' := 17) dX12_comes_16 rfl rfl ?_
  refine ax_iadd (pc' := 18) dX12_comes_17 rfl ?_
  refine ax_iconst (pc' := 19) (v := (0 : Int32)) dX12_comes_18 (by decide) rfl ?_
  obtain ⟨hj19, H⟩ := H
  refine ax_iast (pc' := 20) dX12_comes_19 hr1 hj19 hn1 rfl ?_
  refine ax_aload_n (pc' := 21) dX12_comes_20 rfl rfl ?_
  refine ax_bipush (pc' := 23) (v := (26 : Int32)) dX12_comes_21 (by decide) rfl ?_
  refine ax_iload_n (pc' := 24) dX12_comes_23 rfl rfl ?_
  refine ax_iadd (pc' := 25) dX12_comes_24 rfl ?_
  refine ax_aload_n (pc' := 26) dX12_comes_25 rfl rfl ?_
  refine ax_getR (pc' := 29) dX12_comes_26 fl_X12_37 sh_69 rfl rfl rfl ?_
  refine ax_iload_n (pc' := 30) dX12_comes_29 rfl rfl ?_
  obtain ⟨hj30, H⟩ := H
  refine ax_aald (pc' := 31) dX12_comes_30 sh_101 hj30 rfl rfl ?_
  refine ax_iconst (pc' := 32) (v := (0 : Int32)) dX12_comes_31 (by decide) rfl ?_
  refine ax_iald (pc' := 33) dX12_comes_32 (sh_r_102 _ (ac_lt hj30)) (ac_in (by decide)) (sh_n_102 _ (ac_lt hj30)) rfl ?_
  obtain ⟨hj33, H⟩ := H
  refine ax_iast (pc' := 34) dX12_comes_33 hr1 hj33 hn1 rfl ?_
  exact ax_vret dX12_comes_34 rfl rfl rfl ⟨_, rfl, rfl, H⟩
theorem ol_X12_beginsAnew_150 {g : ac_G} {τ : Nat → Nat → Int64} (d : Nat)  {Q : ac_m → Prop}    {x1 : Int32} {s : ac_m} (H : l_X12_beginsAnew_150  Q    x1 s) : ac_X g i_X12_beginsAnew (d + 1) 0 0 (liV τ Q) 0 0 150 [some (.ref 69), some (.int x1)] [] (false, 586, SH, s, τ) := by
  refine H (fun x1 s => ac_X g i_X12_beginsAnew (d + 1) 0 0 (liV τ Q) 0 0 150 [some (.ref 69), some (.int x1)] [] (false, 586, SH, s, τ)) ?_
  intro x1 s H
  refine ax_iload_n (pc' := 151) dX12_beginsAnew_150 rfl rfl ?_
  refine ax_aload_n (pc' := 152) dX12_beginsAnew_151 rfl rfl ?_
  refine ax_getR (pc' := 155) dX12_beginsAnew_152 fl_X12_23 sh_69 rfl rfl rfl ?_
  refine ax_iconst (pc' := 156) (v := (0 : Int32)) dX12_beginsAnew_155 (by decide) rfl ?_
  refine ax_iald (pc' := 157) dX12_beginsAnew_156 sh_73 (ac_in (by decide)) rfl rfl ?_
  refine ax_icmp_ge (pc' := 160) (tgt := 183) dX12_beginsAnew_157 (by decide) rfl (fun hc157 => ?_) (fun hc157 => ?_)
  · have H := H.1 hc157
    refine ax_aload_n (pc' := 184) dX12_beginsAnew_183 rfl rfl ?_
    refine ax_iconst (pc' := 185) (v := (0 : Int32)) dX12_beginsAnew_184 (by decide) rfl ?_
    refine ax_putI (pc' := 188) dX12_beginsAnew_185 fp_X12_204 sh_69 rfl rfl rfl ?_
    refine ax_aload_n (pc' := 189) dX12_beginsAnew_188 rfl rfl ?_
    refine ax_iconst (pc' := 190) (v := (0 : Int32)) dX12_beginsAnew_189 (by decide) rfl ?_
    refine ax_putI (pc' := 193) dX12_beginsAnew_190 fp_X12_207 sh_69 rfl rfl rfl ?_
    refine ax_aload_n (pc' := 194) dX12_beginsAnew_193 rfl rfl ?_
    refine ax_iconst (pc' := 195) (v := (0 : Int32)) dX12_beginsAnew_194 (by decide) rfl ?_
    refine ax_putI (pc' := 198) dX12_beginsAnew_195 fp_X12_210 sh_69 rfl rfl rfl ?_
    refine ax_aload_n (pc' := 199) dX12_beginsAnew_198 rfl rfl ?_
    refine ax_iconst (pc' := 200) (v := (0 : Int32)) dX12_beginsAnew_199 (by decide) rfl ?_
    refine ax_putI (pc' := 203) dX12_beginsAnew_200 fp_X12_213 sh_69 rfl rfl rfl ?_
    refine ax_aload_n (pc' := 204) dX12_beginsAnew_203 rfl rfl ?_
    refine ax_iconst (pc' := 205) (v := (0 : Int32)) dX12_beginsAnew_204 (by decide) rfl ?_
    refine ax_putI (pc' := 208) dX12_beginsAnew_205 fp_X12_216 sh_69 rfl rfl rfl ?_
    exact ax_vret dX12_beginsAnew_208 rfl rfl rfl ⟨_, rfl, rfl, H⟩
  · have H := H.2 hc157
    refine ax_aload_n (pc' := 161) dX12_beginsAnew_160 rfl rfl ?_
    refine ax_getR (pc' := 164) dX12_beginsAnew_161 fl_X12_67 sh_69 rfl rfl rfl ?_
    refine ax_bipush (pc' := 166) (v := (39 : Int32)) dX12_beginsAnew_164 (by decide) rfl ?_
    refine ax_iload_n (pc' := 167) dX12_beginsAnew_166 rfl rfl ?_
    refine ax_iadd (pc' := 168) dX12_beginsAnew_167 rfl ?_
    refine ax_aload_n (pc' := 169) dX12_beginsAnew_168 rfl rfl ?_
    refine ax_getR (pc' := 172) dX12_beginsAnew_169 fl_X12_31 sh_69 rfl rfl rfl ?_
    refine ax_iload_n (pc' := 173) dX12_beginsAnew_172 rfl rfl ?_
    obtain ⟨hj173, H⟩ := H
    refine ax_aald (pc' := 174) dX12_beginsAnew_173 sh_81 hj173 rfl rfl ?_
    refine ax_iconst (pc' := 175) (v := (0 : Int32)) dX12_beginsAnew_174 (by decide) rfl ?_
    refine ax_iald (pc' := 176) dX12_beginsAnew_175 (sh_r_82 _ (ac_lt hj173)) (ac_in (by decide)) (sh_n_82 _ (ac_lt hj173)) rfl ?_
    obtain ⟨hj176, H⟩ := H
    refine ax_iast (pc' := 177) dX12_beginsAnew_176 sh_556 hj176 rfl rfl ?_
    refine ax_iinc (pc' := 180) (v := (x1 + (1 : Int32))) dX12_beginsAnew_177 rfl rfl rfl rfl rfl ?_
    refine ax_goto (tgt := 150) dX12_beginsAnew_180 (by decide) ?_
    exact H
theorem ol_X12_beginsAnew_123 {g : ac_G} {τ : Nat → Nat → Int64} (d : Nat)  {Q : ac_m → Prop}    {x1 : Int32} {s : ac_m} (H : l_X12_beginsAnew_123  Q    x1 s) : ac_X g i_X12_beginsAnew (d + 1) 0 0 (liV τ Q) 0 0 123 [some (.ref 69), some (.int x1)] [] (false, 586, SH, s, τ) := by
  refine H (fun x1 s => ac_X g i_X12_beginsAnew (d + 1) 0 0 (liV τ Q) 0 0 123 [some (.ref 69), some (.int x1)] [] (false, 586, SH, s, τ)) ?_
  intro x1 s H
  refine ax_iload_n (pc' := 124) dX12_beginsAnew_123 rfl rfl ?_
  refine ax_aload_n (pc' := 125) dX12_beginsAnew_124 rfl rfl ?_
  refine ax_getR (pc' := 128) dX12_beginsAnew_125 fl_X12_23 sh_69 rfl rfl rfl ?_
  refine ax_iconst (pc' := 129) (v := (1 : Int32)) dX12_beginsAnew_128 (by decide) rfl ?_
  refine ax_iald (pc' := 130) dX12_beginsAnew_129 sh_73 (ac_in (by decide)) rfl rfl ?_
  refine ax_icmp_ge (pc' := 133) (tgt := 148) dX12_beginsAnew_130 (by decide) rfl (fun hc130 => ?_) (fun hc130 => ?_)
  · have H := H.1 hc130
    refine ax_iconst (pc' := 149) (v := (0 : Int32)) dX12_beginsAnew_148 (by decide) rfl ?_
    refine ax_istore_n (pc' := 150) dX12_beginsAnew_149 rfl rfl rfl ?_
    refine ol_X12_beginsAnew_150 d       H
  · have H := H.2 hc130
    refine ax_aload_n (pc' := 134) dX12_beginsAnew_133 rfl rfl ?_
    refine ax_aload_n (pc' := 135) dX12_beginsAnew_134 rfl rfl ?_
    refine ax_getR (pc' := 138) dX12_beginsAnew_135 fl_X12_67 sh_69 rfl rfl rfl ?_
    refine ax_iload_n (pc' := 139) dX12_beginsAnew_138 rfl rfl ?_
    refine ay_V2 (pc' := 142) (ce' := 0) (sl' := 0) (mc2 := 0) (ms2 := 0) (I2 := i_X12_comes) dX12_beginsAnew_139 ml_X12_200 sh_69 (by decide) rfl rfl rfl rfl rfl rfl rfl rfl rfl (ac_M.imp (o_X12_comes _ 556 x1 sh_556 rfl H) ?_)
    rintro _ _ ⟨s139, rfl, rfl, H⟩
    refine ax_iinc (pc' := 145) (v := (x1 + (1 : Int32))) dX12_beginsAnew_142 rfl rfl rfl rfl rfl ?_
    refine ax_goto (tgt := 123) dX12_beginsAnew_145 (by decide) ?_
    exact H
theorem ol_X12_beginsAnew_99 {g : ac_G} {τ : Nat → Nat → Int64} (d : Nat)  {Q : ac_m → Prop}    {x1 : Int32} {s : ac_m} (H : l_X12_beginsAnew_99  Q    x1 s) : ac_X g i_X12_beginsAnew (d + 1) 0 0 (liV τ Q) 0 0 99 [some (.ref 69), some (.int x1)] [] (false, 586, SH, s, τ) := by
  refine H (fun x1 s => ac_X g i_X12_beginsAnew (d + 1) 0 0 (liV τ Q) 0 0 99 [some (.ref 69), some (.int x1)] [] (false, 586, SH, s, τ)) ?_
  intro x1 s H
  refine ax_iload_n (pc' := 100) dX12_beginsAnew_99 rfl rfl ?_
  refine ax_bipush (pc' := 102) (v := (12 : Int32)) dX12_beginsAnew_100 (by decide) rfl ?_
  refine ax_icmp_gt (pc' := 105) (tgt := 121) dX12_beginsAnew_102 (by decide) rfl (fun hc102 => ?_) (fun hc102 => ?_)
  · have H := H.1 hc102
    refine ax_iconst (pc' := 122) (v := (0 : Int32)) dX12_beginsAnew_121 (by decide) rfl ?_
    refine ax_istore_n (pc' := 123) dX12_beginsAnew_122 rfl rfl rfl ?_
    refine ol_X12_beginsAnew_123 d       H
  · have H := H.2 hc102
    refine ax_aload_n (pc' := 106) dX12_beginsAnew_105 rfl rfl ?_
    refine ax_getR (pc' := 109) dX12_beginsAnew_106 fl_X12_67 sh_69 rfl rfl rfl ?_
    refine ax_bipush (pc' := 111) (v := (26 : Int32)) dX12_beginsAnew_109 (by decide) rfl ?_
    refine ax_iload_n (pc' := 112) dX12_beginsAnew_111 rfl rfl ?_
    refine ax_iadd (pc' := 113) dX12_beginsAnew_112 rfl ?_
    refine ax_iconst (pc' := 114) (v := (-1 : Int32)) dX12_beginsAnew_113 (by decide) rfl ?_
    obtain ⟨hj114, H⟩ := H
    refine ax_iast (pc' := 115) dX12_beginsAnew_114 sh_556 hj114 rfl rfl ?_
    refine ax_iinc (pc' := 118) (v := (x1 + (1 : Int32))) dX12_beginsAnew_115 rfl rfl rfl rfl rfl ?_
    refine ax_goto (tgt := 99) dX12_beginsAnew_118 (by decide) ?_
    exact H
theorem ol_X12_beginsAnew_78 {g : ac_G} {τ : Nat → Nat → Int64} (d : Nat)  {Q : ac_m → Prop}    {x1 : Int32} {s : ac_m} (H : l_X12_beginsAnew_78  Q    x1 s) : ac_X g i_X12_beginsAnew (d + 1) 0 0 (liV τ Q) 0 0 78 [some (.ref 69), some (.int x1)] [] (false, 586, SH, s, τ) := by
  refine H (fun x1 s => ac_X g i_X12_beginsAnew (d + 1) 0 0 (liV τ Q) 0 0 78 [some (.ref 69), some (.int x1)] [] (false, 586, SH, s, τ)) ?_
  intro x1 s H
  refine ax_iload_n (pc' := 79) dX12_beginsAnew_78 rfl rfl ?_
  refine ax_bipush (pc' := 81) (v := (83 : Int32)) dX12_beginsAnew_79 (by decide) rfl ?_
  refine ax_icmp_ge (pc' := 84) (tgt := 97) dX12_beginsAnew_81 (by decide) rfl (fun hc81 => ?_) (fun hc81 => ?_)
  · have H := H.1 hc81
    refine ax_iconst (pc' := 98) (v := (0 : Int32)) dX12_beginsAnew_97 (by decide) rfl ?_
    refine ax_istore_n (pc' := 99) dX12_beginsAnew_98 rfl rfl rfl ?_
    refine ol_X12_beginsAnew_99 d       H
  · have H := H.2 hc81
    refine ax_aload_n (pc' := 85) dX12_beginsAnew_84 rfl rfl ?_
    refine ax_getR (pc' := 88) dX12_beginsAnew_85 fl_X12_67 sh_69 rfl rfl rfl ?_
    refine ax_iload_n (pc' := 89) dX12_beginsAnew_88 rfl rfl ?_
    refine ax_iconst (pc' := 90) (v := (0 : Int32)) dX12_beginsAnew_89 (by decide) rfl ?_
    obtain ⟨hj90, H⟩ := H
    refine ax_iast (pc' := 91) dX12_beginsAnew_90 sh_556 hj90 rfl rfl ?_
    refine ax_iinc (pc' := 94) (v := (x1 + (1 : Int32))) dX12_beginsAnew_91 rfl rfl rfl rfl rfl ?_
    refine ax_goto (tgt := 78) dX12_beginsAnew_94 (by decide) ?_
    exact H
theorem ol_X12_beginsAnew_2 {g : ac_G} {τ : Nat → Nat → Int64} (d : Nat)  {Q : ac_m → Prop}    {x1 : Int32} {s : ac_m} (H : l_X12_beginsAnew_2  Q    x1 s) : ac_X g i_X12_beginsAnew (d + 1) 0 0 (liV τ Q) 0 0 2 [some (.ref 69), some (.int x1)] [] (false, 586, SH, s, τ) := by
  refine H (fun x1 s => ac_X g i_X12_beginsAnew (d + 1) 0 0 (liV τ Q) 0 0 2 [some (.ref 69), some (.int x1)] [] (false, 586, SH, s, τ)) ?_
  intro x1 s H
  refine ax_iload_n (pc' := 3) dX12_beginsAnew_2 rfl rfl ?_
  refine ax_iconst (pc' := 4) (v := (3 : Int32)) dX12_beginsAnew_3 (by decide) rfl ?_
  refine ax_icmp_ge (pc' := 7) (tgt := 25) dX12_beginsAnew_4 (by decide) rfl (fun hc4 => ?_) (fun hc4 => ?_)
  · have H := H.1 hc4
    refine ax_aload_n (pc' := 26) dX12_beginsAnew_25 rfl rfl ?_
    refine ax_getR (pc' := 29) dX12_beginsAnew_26 fl_X12_28 sh_69 rfl rfl rfl ?_
    refine ax_aload_n (pc' := 30) dX12_beginsAnew_29 rfl rfl ?_
    refine ax_getR (pc' := 33) dX12_beginsAnew_30 fl_X12_31 sh_69 rfl rfl rfl ?_
    refine ax_aload_n (pc' := 34) dX12_beginsAnew_33 rfl rfl ?_
    refine ax_getR (pc' := 37) dX12_beginsAnew_34 fl_X12_23 sh_69 rfl rfl rfl ?_
    refine ax_iconst (pc' := 38) (v := (0 : Int32)) dX12_beginsAnew_37 (by decide) rfl ?_
    refine ax_iald (pc' := 39) dX12_beginsAnew_38 sh_73 (ac_in (by decide)) rfl rfl ?_
    refine ay_S3 (pc' := 42) (ce' := 0) (sl' := 0) (mc2 := 0) (ms2 := 0) (I2 := i_X12_lays) dX12_beginsAnew_39 ml_X12_196 rfl rfl rfl rfl rfl rfl rfl rfl (ac_M.imp (o_X12_lays _ 74 6 75 2 81 6 82 (s 73 (0 : Int32).toNatClampNeg) sh_74 rfl sh_r_75 sh_n_75 sh_81 rfl sh_r_82 sh_n_82 H) ?_)
    rintro _ _ ⟨s39, rfl, rfl, H⟩
    refine ax_aload_n (pc' := 43) dX12_beginsAnew_42 rfl rfl ?_
    refine ax_getR (pc' := 46) dX12_beginsAnew_43 fl_X12_34 sh_69 rfl rfl rfl ?_
    refine ax_aload_n (pc' := 47) dX12_beginsAnew_46 rfl rfl ?_
    refine ax_getR (pc' := 50) dX12_beginsAnew_47 fl_X12_37 sh_69 rfl rfl rfl ?_
    refine ax_aload_n (pc' := 51) dX12_beginsAnew_50 rfl rfl ?_
    refine ax_getR (pc' := 54) dX12_beginsAnew_51 fl_X12_23 sh_69 rfl rfl rfl ?_
    refine ax_iconst (pc' := 55) (v := (1 : Int32)) dX12_beginsAnew_54 (by decide) rfl ?_
    refine ax_iald (pc' := 56) dX12_beginsAnew_55 sh_73 (ac_in (by decide)) rfl rfl ?_
    refine ay_S3 (pc' := 59) (ce' := 0) (sl' := 0) (mc2 := 0) (ms2 := 0) (I2 := i_X12_lays) dX12_beginsAnew_56 ml_X12_196 rfl rfl rfl rfl rfl rfl rfl rfl (ac_M.imp (o_X12_lays _ 88 12 89 4 101 13 102 (s39 73 (1 : Int32).toNatClampNeg) sh_88 rfl sh_r_89 sh_n_89 sh_101 rfl sh_r_102 sh_n_102 H) ?_)
    rintro _ _ ⟨s56, rfl, rfl, H⟩
    refine ax_aload_n (pc' := 60) dX12_beginsAnew_59 rfl rfl ?_
    refine ax_getR (pc' := 63) dX12_beginsAnew_60 fl_X12_40 sh_69 rfl rfl rfl ?_
    refine ax_aload_n (pc' := 64) dX12_beginsAnew_63 rfl rfl ?_
    refine ax_getR (pc' := 67) dX12_beginsAnew_64 fl_X12_43 sh_69 rfl rfl rfl ?_
    refine ax_aload_n (pc' := 68) dX12_beginsAnew_67 rfl rfl ?_
    refine ax_getR (pc' := 71) dX12_beginsAnew_68 fl_X12_23 sh_69 rfl rfl rfl ?_
    refine ax_iconst (pc' := 72) (v := (2 : Int32)) dX12_beginsAnew_71 (by decide) rfl ?_
    refine ax_iald (pc' := 73) dX12_beginsAnew_72 sh_73 (ac_in (by decide)) rfl rfl ?_
    refine ay_S3 (pc' := 76) (ce' := 0) (sl' := 0) (mc2 := 0) (ms2 := 0) (I2 := i_X12_lays) dX12_beginsAnew_73 ml_X12_196 rfl rfl rfl rfl rfl rfl rfl rfl (ac_M.imp (o_X12_lays _ 115 10 116 3 126 10 127 (s56 73 (2 : Int32).toNatClampNeg) sh_115 rfl sh_r_116 sh_n_116 sh_126 rfl sh_r_127 sh_n_127 H) ?_)
    rintro _ _ ⟨s73, rfl, rfl, H⟩
    refine ax_iconst (pc' := 77) (v := (0 : Int32)) dX12_beginsAnew_76 (by decide) rfl ?_
    refine ax_istore_n (pc' := 78) dX12_beginsAnew_77 rfl rfl rfl ?_
    refine ol_X12_beginsAnew_78 d       H
  · have H := H.2 hc4
    refine ax_aload_n (pc' := 8) dX12_beginsAnew_7 rfl rfl ?_
    refine ax_getR (pc' := 11) dX12_beginsAnew_8 fl_X12_23 sh_69 rfl rfl rfl ?_
    refine ax_iload_n (pc' := 12) dX12_beginsAnew_11 rfl rfl ?_
    refine ax_aload_n (pc' := 13) dX12_beginsAnew_12 rfl rfl ?_
    refine ax_getR (pc' := 16) dX12_beginsAnew_13 fl_X12_20 sh_69 rfl rfl rfl ?_
    refine ax_iload_n (pc' := 17) dX12_beginsAnew_16 rfl rfl ?_
    obtain ⟨hj17, H⟩ := H
    refine ax_iald (pc' := 18) dX12_beginsAnew_17 sh_72 hj17 rfl rfl ?_
    obtain ⟨hj18, H⟩ := H
    refine ax_iast (pc' := 19) dX12_beginsAnew_18 sh_73 hj18 rfl rfl ?_
    refine ax_iinc (pc' := 22) (v := (x1 + (1 : Int32))) dX12_beginsAnew_19 rfl rfl rfl rfl rfl ?_
    refine ax_goto (tgt := 2) dX12_beginsAnew_22 (by decide) ?_
    exact H
theorem o_X12_beginsAnew {g : ac_G} {τ : Nat → Nat → Int64} (d : Nat)  {Q : ac_m → Prop} {s : ac_m} (H : w_X12_beginsAnew  Q s) : ac_M g i_X12_beginsAnew (d + 1) 0 0 [.ref 69] (false, 586, SH, s, τ) (liV τ Q) := by
  refine ac_ofX (by decide +kernel) rfl rfl rfl ?_
  refine ax_iconst (pc' := 1) (v := (0 : Int32)) dX12_beginsAnew_0 (by decide) rfl ?_
  refine ax_istore_n (pc' := 2) dX12_beginsAnew_1 rfl rfl rfl ?_
  refine ol_X12_beginsAnew_2 d       H
theorem ol_X12_hills_42 {g : ac_G} {τ : Nat → Nat → Int64} (d : Nat) (p1 : Int32) {Q : Int32 → ac_m → Prop}     {s : ac_m} (H : l_X12_hills_42 p1 Q     s) : ac_X g i_X12_hills (d + 6) 0 0 (liI τ Q) 0 0 42 [some (.ref 69), none] [] (false, 586, SH, s, τ) := by
  refine H (fun  s => ac_X g i_X12_hills (d + 6) 0 0 (liI τ Q) 0 0 42 [some (.ref 69), none] [] (false, 586, SH, s, τ)) ?_
  intro  s H
  refine ax_aload_n (pc' := 43) dX12_hills_42 rfl rfl ?_
  refine ax_getI (pc' := 46) dX12_hills_43 fl_X12_120 sh_69 rfl rfl rfl ?_
  refine ax_if_ne (pc' := 49) (tgt := 71) dX12_hills_46 (by decide) rfl (fun hc46 => ?_) (fun hc46 => ?_)
  · have H := H.1 hc46
    refine ax_aload_n (pc' := 72) dX12_hills_71 rfl rfl ?_
    refine ax_getI (pc' := 75) dX12_hills_72 fl_X12_120 sh_69 rfl rfl rfl ?_
    refine ax_if_eq (pc' := 78) (tgt := 83) dX12_hills_75 (by decide) rfl (fun hc75 => ?_) (fun hc75 => ?_)
    · have H := H.1 hc75
      refine ax_aload_n (pc' := 84) dX12_hills_83 rfl rfl ?_
      refine ax_iconst (pc' := 85) (v := (-1 : Int32)) dX12_hills_84 (by decide) rfl ?_
      refine ax_putI (pc' := 88) dX12_hills_85 fp_X12_9 sh_69 rfl rfl rfl ?_
      refine ax_aload_n (pc' := 89) dX12_hills_88 rfl rfl ?_
      refine ay_V0 (pc' := 92) (ce' := 0) (sl' := 0) (mc2 := 0) (ms2 := 0) (I2 := i_X12_beginsAnew) dX12_hills_89 ml_X12_101 sh_69 (by decide) rfl rfl rfl rfl rfl rfl rfl rfl rfl (ac_M.imp (o_X12_beginsAnew _  H) ?_)
      rintro _ _ ⟨s89, rfl, rfl, H⟩
      refine ax_aload_n (pc' := 93) dX12_hills_92 rfl rfl ?_
      refine ax_getR (pc' := 96) dX12_hills_93 fl_X12_23 sh_69 rfl rfl rfl ?_
      refine ax_iconst (pc' := 97) (v := (1 : Int32)) dX12_hills_96 (by decide) rfl ?_
      refine ax_iald (pc' := 98) dX12_hills_97 sh_73 (ac_in (by decide)) rfl rfl ?_
      exact ax_iret dX12_hills_98 rfl rfl rfl ⟨_, _, rfl, rfl, H⟩
    · have H := H.2 hc75
      refine ax_aload_n (pc' := 79) dX12_hills_78 rfl rfl ?_
      refine ay_V0 (pc' := 82) (ce' := 0) (sl' := 0) (mc2 := 0) (ms2 := 0) (I2 := i_X12_ends) dX12_hills_79 ml_X12_193 sh_69 (by decide) rfl rfl rfl rfl rfl rfl rfl rfl rfl (ac_M.imp (o_X12_ends _  H) ?_)
      rintro _ _ ⟨r79, s79, rfl, rfl, H⟩
      exact ax_iret dX12_hills_82 rfl rfl rfl ⟨_, _, rfl, rfl, H⟩
  · have H := H.2 hc46
    refine ax_aload_n (pc' := 50) dX12_hills_49 rfl rfl ?_
    refine ax_getI (pc' := 53) dX12_hills_50 fl_X12_113 sh_69 rfl rfl rfl ?_
    refine ax_aload_n (pc' := 54) dX12_hills_53 rfl rfl ?_
    refine ax_getI (pc' := 57) dX12_hills_54 fl_X12_110 sh_69 rfl rfl rfl ?_
    refine ax_icmp_ge (pc' := 60) (tgt := 71) dX12_hills_57 (by decide) rfl (fun hc57 => ?_) (fun hc57 => ?_)
    · have H := H.1 hc57
      refine ax_aload_n (pc' := 72) dX12_hills_71 rfl rfl ?_
      refine ax_getI (pc' := 75) dX12_hills_72 fl_X12_120 sh_69 rfl rfl rfl ?_
      refine ax_if_eq (pc' := 78) (tgt := 83) dX12_hills_75 (by decide) rfl (fun hc75 => ?_) (fun hc75 => ?_)
      · have H := H.1 hc75
        refine ax_aload_n (pc' := 84) dX12_hills_83 rfl rfl ?_
        refine ax_iconst (pc' := 85) (v := (-1 : Int32)) dX12_hills_84 (by decide) rfl ?_
        refine ax_putI (pc' := 88) dX12_hills_85 fp_X12_9 sh_69 rfl rfl rfl ?_
        refine ax_aload_n (pc' := 89) dX12_hills_88 rfl rfl ?_
        refine ay_V0 (pc' := 92) (ce' := 0) (sl' := 0) (mc2 := 0) (ms2 := 0) (I2 := i_X12_beginsAnew) dX12_hills_89 ml_X12_101 sh_69 (by decide) rfl rfl rfl rfl rfl rfl rfl rfl rfl (ac_M.imp (o_X12_beginsAnew _  H) ?_)
        rintro _ _ ⟨s89, rfl, rfl, H⟩
        refine ax_aload_n (pc' := 93) dX12_hills_92 rfl rfl ?_
        refine ax_getR (pc' := 96) dX12_hills_93 fl_X12_23 sh_69 rfl rfl rfl ?_
        refine ax_iconst (pc' := 97) (v := (1 : Int32)) dX12_hills_96 (by decide) rfl ?_
        refine ax_iald (pc' := 98) dX12_hills_97 sh_73 (ac_in (by decide)) rfl rfl ?_
        exact ax_iret dX12_hills_98 rfl rfl rfl ⟨_, _, rfl, rfl, H⟩
      · have H := H.2 hc75
        refine ax_aload_n (pc' := 79) dX12_hills_78 rfl rfl ?_
        refine ay_V0 (pc' := 82) (ce' := 0) (sl' := 0) (mc2 := 0) (ms2 := 0) (I2 := i_X12_ends) dX12_hills_79 ml_X12_193 sh_69 (by decide) rfl rfl rfl rfl rfl rfl rfl rfl rfl (ac_M.imp (o_X12_ends _  H) ?_)
        rintro _ _ ⟨r79, s79, rfl, rfl, H⟩
        exact ax_iret dX12_hills_82 rfl rfl rfl ⟨_, _, rfl, rfl, H⟩
    · have H := H.2 hc57
      refine ax_aload_n (pc' := 61) dX12_hills_60 rfl rfl ?_
      refine ay_V0 (pc' := 64) (ce' := 0) (sl' := 0) (mc2 := 0) (ms2 := 0) (I2 := i_X12_clause) dX12_hills_61 ml_X12_190 sh_69 (by decide) rfl rfl rfl rfl rfl rfl rfl rfl rfl (ac_M.imp (o_X12_clause _  H) ?_)
      rintro _ _ ⟨s61, rfl, rfl, H⟩
      refine ax_aload_n (pc' := 65) dX12_hills_64 rfl rfl ?_
      refine ay_V0 (pc' := 68) (ce' := 0) (sl' := 0) (mc2 := 0) (ms2 := 0) (I2 := i_X12_blanks) dX12_hills_65 ml_X12_126 sh_69 (by decide) rfl rfl rfl rfl rfl rfl rfl rfl rfl (ac_M.imp (o_X12_blanks _  H) ?_)
      rintro _ _ ⟨s65, rfl, rfl, H⟩
      refine ax_goto (tgt := 42) dX12_hills_68 (by decide) ?_
      exact H
theorem o_X12_hills {g : ac_G} {τ : Nat → Nat → Int64} (d : Nat) (p1 : Int32) {Q : Int32 → ac_m → Prop} {s : ac_m} (H : w_X12_hills p1 Q s) : ac_M g i_X12_hills (d + 6) 0 0 [.ref 69, .int p1] (false, 586, SH, s, τ) (liI τ Q) := by
  refine ac_ofX (by decide +kernel) rfl rfl rfl ?_
  refine ax_aload_n (pc' := 1) dX12_hills_0 rfl rfl ?_
  refine ax_iconst (pc' := 2) (v := (0 : Int32)) dX12_hills_1 (by decide) rfl ?_
  refine ax_putI (pc' := 5) dX12_hills_2 fp_X12_104 sh_69 rfl rfl rfl ?_
  refine ax_aload_n (pc' := 6) dX12_hills_5 rfl rfl ?_
  refine ax_iload_n (pc' := 7) dX12_hills_6 rfl rfl ?_
  refine ax_iconst (pc' := 8) (v := (0 : Int32)) dX12_hills_7 (by decide) rfl ?_
  refine ax_aload_n (pc' := 9) dX12_hills_8 rfl rfl ?_
  refine ax_getI (pc' := 12) dX12_hills_9 fl_X12_107 sh_69 rfl rfl rfl ?_
  refine ay_S3 (pc' := 15) (ce' := 0) (sl' := 0) (mc2 := 0) (ms2 := 0) (I2 := i_X12_in) dX12_hills_12 ml_X12_138 rfl rfl rfl rfl rfl rfl rfl rfl (ac_M.imp (o_X12_in _ p1 (0 : Int32) ((ac_u s 69 0 (0 : Int32)) 69 1) H) ?_)
  rintro _ _ ⟨r12, s12, rfl, rfl, H⟩
  refine ax_if_ne (pc' := 18) (tgt := 22) dX12_hills_15 (by decide) rfl (fun hc15 => ?_) (fun hc15 => ?_)
  · have H := H.1 hc15
    refine ax_iconst (pc' := 23) (v := (0 : Int32)) dX12_hills_22 (by decide) rfl ?_
    refine ax_iconst (pc' := 24) (v := (1 : Int32)) dX12_hills_23 (by decide) rfl ?_
    refine ax_iconst (pc' := 25) (v := (1 : Int32)) dX12_hills_24 (by decide) rfl ?_
    refine ay_V3 (pc' := 28) (ce' := 0) (sl' := 0) (mc2 := 0) (ms2 := 0) (I2 := i_X12_bad) dX12_hills_25 ml_X12_183 sh_69 (by decide) rfl rfl rfl rfl rfl rfl rfl rfl rfl (ac_M.imp (o_X12_bad _ (0 : Int32) (1 : Int32) (1 : Int32) H) ?_)
    rintro _ _ ⟨r25, s25, rfl, rfl, H⟩
    refine ax_if_eq (pc' := 31) (tgt := 33) dX12_hills_28 (by decide) rfl (fun hc28 => ?_) (fun hc28 => ?_)
    · have H := H.1 hc28
      refine ax_aload_n (pc' := 34) dX12_hills_33 rfl rfl ?_
      refine ax_iload_n (pc' := 35) dX12_hills_34 rfl rfl ?_
      refine ay_V1 (pc' := 38) (ce' := 0) (sl' := 0) (mc2 := 0) (ms2 := 0) (I2 := i_X12_starts) dX12_hills_35 ml_X12_187 sh_69 (by decide) rfl rfl rfl rfl rfl rfl rfl rfl rfl (ac_M.imp (o_X12_starts _ p1 H) ?_)
      rintro _ _ ⟨s35, rfl, rfl, H⟩
      refine ax_aload_n (pc' := 39) dX12_hills_38 rfl rfl ?_
      refine ay_V0 (pc' := 42) (ce' := 0) (sl' := 0) (mc2 := 0) (ms2 := 0) (I2 := i_X12_tellsNothing) dX12_hills_39 ml_X12_98 sh_69 (by decide) rfl rfl rfl rfl rfl rfl rfl rfl rfl (ac_M.imp (o_X12_tellsNothing _  H) ?_)
      rintro _ _ ⟨s39, rfl, rfl, H⟩
      refine ax_drop 1 rfl ?_
      refine ol_X12_hills_42 d p1      H
    · have H := H.2 hc28
      refine ax_iconst (pc' := 32) (v := (0 : Int32)) dX12_hills_31 (by decide) rfl ?_
      exact ax_iret dX12_hills_32 rfl rfl rfl ⟨_, _, rfl, rfl, H⟩
  · have H := H.2 hc15
    refine ax_iconst (pc' := 19) (v := (1 : Int32)) dX12_hills_18 (by decide) rfl ?_
    refine ax_goto (tgt := 23) dX12_hills_19 (by decide) ?_
    refine ax_iconst (pc' := 24) (v := (1 : Int32)) dX12_hills_23 (by decide) rfl ?_
    refine ax_iconst (pc' := 25) (v := (1 : Int32)) dX12_hills_24 (by decide) rfl ?_
    refine ay_V3 (pc' := 28) (ce' := 0) (sl' := 0) (mc2 := 0) (ms2 := 0) (I2 := i_X12_bad) dX12_hills_25 ml_X12_183 sh_69 (by decide) rfl rfl rfl rfl rfl rfl rfl rfl rfl (ac_M.imp (o_X12_bad _ (1 : Int32) (1 : Int32) (1 : Int32) H) ?_)
    rintro _ _ ⟨r25, s25, rfl, rfl, H⟩
    refine ax_if_eq (pc' := 31) (tgt := 33) dX12_hills_28 (by decide) rfl (fun hc28 => ?_) (fun hc28 => ?_)
    · have H := H.1 hc28
      refine ax_aload_n (pc' := 34) dX12_hills_33 rfl rfl ?_
      refine ax_iload_n (pc' := 35) dX12_hills_34 rfl rfl ?_
      refine ay_V1 (pc' := 38) (ce' := 0) (sl' := 0) (mc2 := 0) (ms2 := 0) (I2 := i_X12_starts) dX12_hills_35 ml_X12_187 sh_69 (by decide) rfl rfl rfl rfl rfl rfl rfl rfl rfl (ac_M.imp (o_X12_starts _ p1 H) ?_)
      rintro _ _ ⟨s35, rfl, rfl, H⟩
      refine ax_aload_n (pc' := 39) dX12_hills_38 rfl rfl ?_
      refine ay_V0 (pc' := 42) (ce' := 0) (sl' := 0) (mc2 := 0) (ms2 := 0) (I2 := i_X12_tellsNothing) dX12_hills_39 ml_X12_98 sh_69 (by decide) rfl rfl rfl rfl rfl rfl rfl rfl rfl (ac_M.imp (o_X12_tellsNothing _  H) ?_)
      rintro _ _ ⟨s39, rfl, rfl, H⟩
      refine ax_drop 1 rfl ?_
      refine ol_X12_hills_42 d p1      H
    · have H := H.2 hc28
      refine ax_iconst (pc' := 32) (v := (0 : Int32)) dX12_hills_31 (by decide) rfl ?_
      exact ax_iret dX12_hills_32 rfl rfl rfl ⟨_, _, rfl, rfl, H⟩
theorem ol_X12_copies_2 {g : ac_G} {τ : Nat → Nat → Int64} (d : Nat) (r1 : Nat) (r2 : Nat) (hr1 : SH r1 = .inl (0, 83, 0)) (hn1 : Nat.blt r1 586 = true) (hr2 : SH r2 = .inl (0, 83, 0)) (hn2 : Nat.blt r2 586 = true) {Q : ac_m → Prop}    {x2 : Int32} {s : ac_m} (H : l_X12_copies_2 r1 r2 Q    x2 s) : ac_X g i_X12_copies d 0 0 (liV τ Q) 0 0 2 [some (.ref r1), some (.ref r2), some (.int x2)] [] (false, 586, SH, s, τ) := by
  refine H (fun x2 s => ac_X g i_X12_copies d 0 0 (liV τ Q) 0 0 2 [some (.ref r1), some (.ref r2), some (.int x2)] [] (false, 586, SH, s, τ)) ?_
  intro x2 s H
  refine ax_iload_n (pc' := 3) dX12_copies_2 rfl rfl ?_
  refine ax_bipush (pc' := 5) (v := (83 : Int32)) dX12_copies_3 (by decide) rfl ?_
  refine ax_icmp_ge (pc' := 8) (tgt := 20) dX12_copies_5 (by decide) rfl (fun hc5 => ?_) (fun hc5 => ?_)
  · have H := H.1 hc5
    exact ax_vret dX12_copies_20 rfl rfl rfl ⟨_, rfl, rfl, H⟩
  · have H := H.2 hc5
    refine ax_aload_n (pc' := 9) dX12_copies_8 rfl rfl ?_
    refine ax_iload_n (pc' := 10) dX12_copies_9 rfl rfl ?_
    refine ax_aload_n (pc' := 11) dX12_copies_10 rfl rfl ?_
    refine ax_iload_n (pc' := 12) dX12_copies_11 rfl rfl ?_
    obtain ⟨hj12, H⟩ := H
    refine ax_iald (pc' := 13) dX12_copies_12 hr1 hj12 hn1 rfl ?_
    obtain ⟨hj13, H⟩ := H
    refine ax_iast (pc' := 14) dX12_copies_13 hr2 hj13 hn2 rfl ?_
    refine ax_iinc (pc' := 17) (v := (x2 + (1 : Int32))) dX12_copies_14 rfl rfl rfl rfl rfl ?_
    refine ax_goto (tgt := 2) dX12_copies_17 (by decide) ?_
    exact H
theorem o_X12_copies {g : ac_G} {τ : Nat → Nat → Int64} (d : Nat) (r1 : Nat) (r2 : Nat) (hr1 : SH r1 = .inl (0, 83, 0)) (hn1 : Nat.blt r1 586 = true) (hr2 : SH r2 = .inl (0, 83, 0)) (hn2 : Nat.blt r2 586 = true) {Q : ac_m → Prop} {s : ac_m} (H : w_X12_copies r1 r2 Q s) : ac_M g i_X12_copies d 0 0 [.ref r1, .ref r2] (false, 586, SH, s, τ) (liV τ Q) := by
  refine ac_ofX (by decide +kernel) rfl rfl rfl ?_
  refine ax_iconst (pc' := 1) (v := (0 : Int32)) dX12_copies_0 (by decide) rfl ?_
  refine ax_istore_n (pc' := 2) dX12_copies_1 rfl rfl rfl ?_
  refine ol_X12_copies_2 d r1 r2 hr1 hn1 hr2 hn2     H
theorem o_X12_notes {g : ac_G} {τ : Nat → Nat → Int64} (d : Nat) (p1 : Int32) (p2 : Int32) {Q : ac_m → Prop} {s : ac_m} (H : w_X12_notes p1 p2 Q s) : ac_M g i_X12_notes d 0 0 [.ref 69, .int p1, .int p2] (false, 586, SH, s, τ) (liV τ Q) := by
  refine ac_ofX (by decide +kernel) rfl rfl rfl ?_
  refine ax_aload_n (pc' := 1) dX12_notes_0 rfl rfl ?_
  refine ax_getI (pc' := 4) dX12_notes_1 fl_X12_120 sh_69 rfl rfl rfl ?_
  refine ax_if_eq (pc' := 7) (tgt := 8) dX12_notes_4 (by decide) rfl (fun hc4 => ?_) (fun hc4 => ?_)
  · have H := H.1 hc4
    refine ax_aload_n (pc' := 9) dX12_notes_8 rfl rfl ?_
    refine ax_getR (pc' := 12) dX12_notes_9 fl_X12_49 sh_69 rfl rfl rfl ?_
    refine ax_aload_n (pc' := 13) dX12_notes_12 rfl rfl ?_
    refine ax_getI (pc' := 16) dX12_notes_13 fl_X12_219 sh_69 rfl rfl rfl ?_
    obtain ⟨hj16, H⟩ := H
    refine ax_aald (pc' := 17) dX12_notes_16 sh_298 hj16 rfl rfl ?_
    refine ax_iconst (pc' := 18) (v := (0 : Int32)) dX12_notes_17 (by decide) rfl ?_
    refine ax_iload_n (pc' := 19) dX12_notes_18 rfl rfl ?_
    refine ax_iast (pc' := 20) dX12_notes_19 (sh_r_299 _ (ac_lt hj16)) (ac_in (by decide)) (sh_n_299 _ (ac_lt hj16)) rfl ?_
    refine ax_aload_n (pc' := 21) dX12_notes_20 rfl rfl ?_
    refine ax_getR (pc' := 24) dX12_notes_21 fl_X12_49 sh_69 rfl rfl rfl ?_
    refine ax_aload_n (pc' := 25) dX12_notes_24 rfl rfl ?_
    refine ax_getI (pc' := 28) dX12_notes_25 fl_X12_219 sh_69 rfl rfl rfl ?_
    obtain ⟨hj28, H⟩ := H
    refine ax_aald (pc' := 29) dX12_notes_28 sh_298 hj28 rfl rfl ?_
    refine ax_iconst (pc' := 30) (v := (1 : Int32)) dX12_notes_29 (by decide) rfl ?_
    refine ax_iload_n (pc' := 31) dX12_notes_30 rfl rfl ?_
    refine ax_iast (pc' := 32) dX12_notes_31 (sh_r_299 _ (ac_lt hj28)) (ac_in (by decide)) (sh_n_299 _ (ac_lt hj28)) rfl ?_
    refine ax_aload_n (pc' := 33) dX12_notes_32 rfl rfl ?_
    refine ax_dup (pc' := 34) dX12_notes_33 rfl rfl ?_
    refine ax_getI (pc' := 37) dX12_notes_34 fl_X12_219 sh_69 rfl rfl rfl ?_
    refine ax_iconst (pc' := 38) (v := (1 : Int32)) dX12_notes_37 (by decide) rfl ?_
    refine ax_iadd (pc' := 39) dX12_notes_38 rfl ?_
    refine ax_putI (pc' := 42) dX12_notes_39 fp_X12_219 sh_69 rfl rfl rfl ?_
    exact ax_vret dX12_notes_42 rfl rfl rfl ⟨_, rfl, rfl, H⟩
  · have H := H.2 hc4
    exact ax_vret dX12_notes_7 rfl rfl rfl ⟨_, rfl, rfl, H⟩
theorem o_X12_opensOne {g : ac_G} {τ : Nat → Nat → Int64} (d : Nat)  {Q : Int32 → ac_m → Prop} {s : ac_m} (H : w_X12_opensOne  Q s) : ac_M g i_X12_opensOne (d + 1) 0 0 [.ref 69] (false, 586, SH, s, τ) (liI τ Q) := by
  refine ac_ofX (by decide +kernel) rfl rfl rfl ?_
  refine ax_aload_n (pc' := 1) dX12_opensOne_0 rfl rfl ?_
  refine ax_getI (pc' := 4) dX12_opensOne_1 fl_X12_120 sh_69 rfl rfl rfl ?_
  refine ax_if_ne (pc' := 7) (tgt := 28) dX12_opensOne_4 (by decide) rfl (fun hc4 => ?_) (fun hc4 => ?_)
  · have H := H.1 hc4
    refine ax_aload_n (pc' := 29) dX12_opensOne_28 rfl rfl ?_
    refine ax_getI (pc' := 32) dX12_opensOne_29 fl_X12_120 sh_69 rfl rfl rfl ?_
    refine ax_if_ne (pc' := 35) (tgt := 45) dX12_opensOne_32 (by decide) rfl (fun hc32 => ?_) (fun hc32 => ?_)
    · have H := H.1 hc32
      refine ax_aload_n (pc' := 46) dX12_opensOne_45 rfl rfl ?_
      refine ax_getI (pc' := 49) dX12_opensOne_46 fl_X12_120 sh_69 rfl rfl rfl ?_
      refine ax_if_ne (pc' := 52) (tgt := 56) dX12_opensOne_49 (by decide) rfl (fun hc49 => ?_) (fun hc49 => ?_)
      · have H := H.1 hc49
        refine ax_iconst (pc' := 57) (v := (0 : Int32)) dX12_opensOne_56 (by decide) rfl ?_
        exact ax_zret dX12_opensOne_57 rfl rfl rfl rfl ⟨_, _, rfl, rfl, H⟩
      · have H := H.2 hc49
        refine ax_iconst (pc' := 53) (v := (1 : Int32)) dX12_opensOne_52 (by decide) rfl ?_
        refine ax_goto (tgt := 57) dX12_opensOne_53 (by decide) ?_
        exact ax_zret dX12_opensOne_57 rfl rfl rfl rfl ⟨_, _, rfl, rfl, H⟩
    · have H := H.2 hc32
      refine ax_aload_n (pc' := 36) dX12_opensOne_35 rfl rfl ?_
      refine ax_dup (pc' := 37) dX12_opensOne_36 rfl rfl ?_
      refine ax_getI (pc' := 40) dX12_opensOne_37 fl_X12_163 sh_69 rfl rfl rfl ?_
      refine ax_iconst (pc' := 41) (v := (1 : Int32)) dX12_opensOne_40 (by decide) rfl ?_
      refine ax_iadd (pc' := 42) dX12_opensOne_41 rfl ?_
      refine ax_putI (pc' := 45) dX12_opensOne_42 fp_X12_163 sh_69 rfl rfl rfl ?_
      refine ax_aload_n (pc' := 46) dX12_opensOne_45 rfl rfl ?_
      refine ax_getI (pc' := 49) dX12_opensOne_46 fl_X12_120 sh_69 rfl rfl rfl ?_
      refine ax_if_ne (pc' := 52) (tgt := 56) dX12_opensOne_49 (by decide) rfl (fun hc49 => ?_) (fun hc49 => ?_)
      · have H := H.1 hc49
        refine ax_iconst (pc' := 57) (v := (0 : Int32)) dX12_opensOne_56 (by decide) rfl ?_
        exact ax_zret dX12_opensOne_57 rfl rfl rfl rfl ⟨_, _, rfl, rfl, H⟩
      · have H := H.2 hc49
        refine ax_iconst (pc' := 53) (v := (1 : Int32)) dX12_opensOne_52 (by decide) rfl ?_
        refine ax_goto (tgt := 57) dX12_opensOne_53 (by decide) ?_
        exact ax_zret dX12_opensOne_57 rfl rfl rfl rfl ⟨_, _, rfl, rfl, H⟩
  · have H := H.2 hc4
    refine ax_aload_n (pc' := 8) dX12_opensOne_7 rfl rfl ?_
    refine ax_getI (pc' := 11) dX12_opensOne_8 fl_X12_163 sh_69 rfl rfl rfl ?_
    refine ax_bipush (pc' := 13) (v := (6 : Int32)) dX12_opensOne_11 (by decide) rfl ?_
    refine ax_icmp_ne (pc' := 16) (tgt := 28) dX12_opensOne_13 (by decide) rfl (fun hc13 => ?_) (fun hc13 => ?_)
    · have H := H.1 hc13
      refine ax_aload_n (pc' := 29) dX12_opensOne_28 rfl rfl ?_
      refine ax_getI (pc' := 32) dX12_opensOne_29 fl_X12_120 sh_69 rfl rfl rfl ?_
      refine ax_if_ne (pc' := 35) (tgt := 45) dX12_opensOne_32 (by decide) rfl (fun hc32 => ?_) (fun hc32 => ?_)
      · have H := H.1 hc32
        refine ax_aload_n (pc' := 46) dX12_opensOne_45 rfl rfl ?_
        refine ax_getI (pc' := 49) dX12_opensOne_46 fl_X12_120 sh_69 rfl rfl rfl ?_
        refine ax_if_ne (pc' := 52) (tgt := 56) dX12_opensOne_49 (by decide) rfl (fun hc49 => ?_) (fun hc49 => ?_)
        · have H := H.1 hc49
          refine ax_iconst (pc' := 57) (v := (0 : Int32)) dX12_opensOne_56 (by decide) rfl ?_
          exact ax_zret dX12_opensOne_57 rfl rfl rfl rfl ⟨_, _, rfl, rfl, H⟩
        · have H := H.2 hc49
          refine ax_iconst (pc' := 53) (v := (1 : Int32)) dX12_opensOne_52 (by decide) rfl ?_
          refine ax_goto (tgt := 57) dX12_opensOne_53 (by decide) ?_
          exact ax_zret dX12_opensOne_57 rfl rfl rfl rfl ⟨_, _, rfl, rfl, H⟩
      · have H := H.2 hc32
        refine ax_aload_n (pc' := 36) dX12_opensOne_35 rfl rfl ?_
        refine ax_dup (pc' := 37) dX12_opensOne_36 rfl rfl ?_
        refine ax_getI (pc' := 40) dX12_opensOne_37 fl_X12_163 sh_69 rfl rfl rfl ?_
        refine ax_iconst (pc' := 41) (v := (1 : Int32)) dX12_opensOne_40 (by decide) rfl ?_
        refine ax_iadd (pc' := 42) dX12_opensOne_41 rfl ?_
        refine ax_putI (pc' := 45) dX12_opensOne_42 fp_X12_163 sh_69 rfl rfl rfl ?_
        refine ax_aload_n (pc' := 46) dX12_opensOne_45 rfl rfl ?_
        refine ax_getI (pc' := 49) dX12_opensOne_46 fl_X12_120 sh_69 rfl rfl rfl ?_
        refine ax_if_ne (pc' := 52) (tgt := 56) dX12_opensOne_49 (by decide) rfl (fun hc49 => ?_) (fun hc49 => ?_)
        · have H := H.1 hc49
          refine ax_iconst (pc' := 57) (v := (0 : Int32)) dX12_opensOne_56 (by decide) rfl ?_
          exact ax_zret dX12_opensOne_57 rfl rfl rfl rfl ⟨_, _, rfl, rfl, H⟩
        · have H := H.2 hc49
          refine ax_iconst (pc' := 53) (v := (1 : Int32)) dX12_opensOne_52 (by decide) rfl ?_
          refine ax_goto (tgt := 57) dX12_opensOne_53 (by decide) ?_
          exact ax_zret dX12_opensOne_57 rfl rfl rfl rfl ⟨_, _, rfl, rfl, H⟩
    · have H := H.2 hc13
      refine ax_aload_n (pc' := 17) dX12_opensOne_16 rfl rfl ?_
      refine ax_iconst (pc' := 18) (v := (3 : Int32)) dX12_opensOne_17 (by decide) rfl ?_
      refine ax_aload_n (pc' := 19) dX12_opensOne_18 rfl rfl ?_
      refine ax_getI (pc' := 22) dX12_opensOne_19 fl_X12_113 sh_69 rfl rfl rfl ?_
      refine ay_V2 (pc' := 25) (ce' := 0) (sl' := 0) (mc2 := 0) (ms2 := 0) (I2 := i_X12_wrong) dX12_opensOne_22 ml_X12_133 sh_69 (by decide) rfl rfl rfl rfl rfl rfl rfl rfl rfl (ac_M.imp (o_X12_wrong _ (3 : Int32) (s 69 4) H) ?_)
      rintro _ _ ⟨s22, rfl, rfl, H⟩
      refine ax_goto (tgt := 45) dX12_opensOne_25 (by decide) ?_
      refine ax_aload_n (pc' := 46) dX12_opensOne_45 rfl rfl ?_
      refine ax_getI (pc' := 49) dX12_opensOne_46 fl_X12_120 sh_69 rfl rfl rfl ?_
      refine ax_if_ne (pc' := 52) (tgt := 56) dX12_opensOne_49 (by decide) rfl (fun hc49 => ?_) (fun hc49 => ?_)
      · have H := H.1 hc49
        refine ax_iconst (pc' := 57) (v := (0 : Int32)) dX12_opensOne_56 (by decide) rfl ?_
        exact ax_zret dX12_opensOne_57 rfl rfl rfl rfl ⟨_, _, rfl, rfl, H⟩
      · have H := H.2 hc49
        refine ax_iconst (pc' := 53) (v := (1 : Int32)) dX12_opensOne_52 (by decide) rfl ?_
        refine ax_goto (tgt := 57) dX12_opensOne_53 (by decide) ?_
        exact ax_zret dX12_opensOne_57 rfl rfl rfl rfl ⟨_, _, rfl, rfl, H⟩
theorem o_X12_knownHere {g : ac_G} {τ : Nat → Nat → Int64} (d : Nat)  {Q : Int32 → ac_m → Prop} {s : ac_m} (H : w_X12_knownHere  Q s) : ac_M g i_X12_knownHere (d + 5) 0 0 [.ref 69] (false, 586, SH, s, τ) (liI τ Q) := by
  refine ac_ofX (by decide +kernel) rfl rfl rfl ?_
  refine ax_aload_n (pc' := 1) dX12_knownHere_0 rfl rfl ?_
  refine ax_bipush (pc' := 3) (v := (23 : Int32)) dX12_knownHere_1 (by decide) rfl ?_
  refine ax_iconst (pc' := 4) (v := (5 : Int32)) dX12_knownHere_3 (by decide) rfl ?_
  refine ax_bipush (pc' := 6) (v := (9 : Int32)) dX12_knownHere_4 (by decide) rfl ?_
  refine ax_bipush (pc' := 8) (v := (7 : Int32)) dX12_knownHere_6 (by decide) rfl ?_
  refine ax_bipush (pc' := 10) (v := (8 : Int32)) dX12_knownHere_8 (by decide) rfl ?_
  refine ax_bipush (pc' := 12) (v := (20 : Int32)) dX12_knownHere_10 (by decide) rfl ?_
  refine ay_V6 (pc' := 15) (ce' := 0) (sl' := 0) (mc2 := 0) (ms2 := 0) (I2 := i_X12_takes) dX12_knownHere_12 ml_X12_234 sh_69 (by decide) rfl rfl rfl rfl rfl rfl rfl rfl rfl (ac_M.imp (o_X12_takes _ (23 : Int32) (5 : Int32) (9 : Int32) (7 : Int32) (8 : Int32) (20 : Int32) H) ?_)
  rintro _ _ ⟨r12, s12, rfl, rfl, H⟩
  refine ax_if_eq (pc' := 18) (tgt := 20) dX12_knownHere_15 (by decide) rfl (fun hc15 => ?_) (fun hc15 => ?_)
  · have H := H.1 hc15
    refine ax_aload_n (pc' := 21) dX12_knownHere_20 rfl rfl ?_
    refine ax_bipush (pc' := 23) (v := (11 : Int32)) dX12_knownHere_21 (by decide) rfl ?_
    refine ax_bipush (pc' := 25) (v := (9 : Int32)) dX12_knownHere_23 (by decide) rfl ?_
    refine ax_bipush (pc' := 27) (v := (14 : Int32)) dX12_knownHere_25 (by decide) rfl ?_
    refine ax_iconst (pc' := 28) (v := (4 : Int32)) dX12_knownHere_27 (by decide) rfl ?_
    refine ax_iconst (pc' := 29) (v := (0 : Int32)) dX12_knownHere_28 (by decide) rfl ?_
    refine ax_iconst (pc' := 30) (v := (0 : Int32)) dX12_knownHere_29 (by decide) rfl ?_
    refine ay_V6 (pc' := 33) (ce' := 0) (sl' := 0) (mc2 := 0) (ms2 := 0) (I2 := i_X12_takes) dX12_knownHere_30 ml_X12_234 sh_69 (by decide) rfl rfl rfl rfl rfl rfl rfl rfl rfl (ac_M.imp (o_X12_takes _ (11 : Int32) (9 : Int32) (14 : Int32) (4 : Int32) (0 : Int32) (0 : Int32) H) ?_)
    rintro _ _ ⟨r30, s30, rfl, rfl, H⟩
    refine ax_if_eq (pc' := 36) (tgt := 38) dX12_knownHere_33 (by decide) rfl (fun hc33 => ?_) (fun hc33 => ?_)
    · have H := H.1 hc33
      refine ax_aload_n (pc' := 39) dX12_knownHere_38 rfl rfl ?_
      refine ax_iconst (pc' := 40) (v := (1 : Int32)) dX12_knownHere_39 (by decide) rfl ?_
      refine ax_bipush (pc' := 42) (v := (7 : Int32)) dX12_knownHere_40 (by decide) rfl ?_
      refine ax_iconst (pc' := 43) (v := (5 : Int32)) dX12_knownHere_42 (by decide) rfl ?_
      refine ax_iconst (pc' := 44) (v := (0 : Int32)) dX12_knownHere_43 (by decide) rfl ?_
      refine ax_iconst (pc' := 45) (v := (0 : Int32)) dX12_knownHere_44 (by decide) rfl ?_
      refine ax_iconst (pc' := 46) (v := (0 : Int32)) dX12_knownHere_45 (by decide) rfl ?_
      refine ay_V6 (pc' := 49) (ce' := 0) (sl' := 0) (mc2 := 0) (ms2 := 0) (I2 := i_X12_takes) dX12_knownHere_46 ml_X12_234 sh_69 (by decide) rfl rfl rfl rfl rfl rfl rfl rfl rfl (ac_M.imp (o_X12_takes _ (1 : Int32) (7 : Int32) (5 : Int32) (0 : Int32) (0 : Int32) (0 : Int32) H) ?_)
      rintro _ _ ⟨r46, s46, rfl, rfl, H⟩
      refine ax_if_eq (pc' := 52) (tgt := 54) dX12_knownHere_49 (by decide) rfl (fun hc49 => ?_) (fun hc49 => ?_)
      · have H := H.1 hc49
        refine ax_aload_n (pc' := 55) dX12_knownHere_54 rfl rfl ?_
        refine ax_bipush (pc' := 57) (v := (7 : Int32)) dX12_knownHere_55 (by decide) rfl ?_
        refine ax_bipush (pc' := 59) (v := (18 : Int32)) dX12_knownHere_57 (by decide) rfl ?_
        refine ax_iconst (pc' := 60) (v := (1 : Int32)) dX12_knownHere_59 (by decide) rfl ?_
        refine ax_bipush (pc' := 62) (v := (19 : Int32)) dX12_knownHere_60 (by decide) rfl ?_
        refine ax_bipush (pc' := 64) (v := (19 : Int32)) dX12_knownHere_62 (by decide) rfl ?_
        refine ax_iconst (pc' := 65) (v := (0 : Int32)) dX12_knownHere_64 (by decide) rfl ?_
        refine ay_V6 (pc' := 68) (ce' := 0) (sl' := 0) (mc2 := 0) (ms2 := 0) (I2 := i_X12_takes) dX12_knownHere_65 ml_X12_234 sh_69 (by decide) rfl rfl rfl rfl rfl rfl rfl rfl rfl (ac_M.imp (o_X12_takes _ (7 : Int32) (18 : Int32) (1 : Int32) (19 : Int32) (19 : Int32) (0 : Int32) H) ?_)
        rintro _ _ ⟨r65, s65, rfl, rfl, H⟩
        refine ax_if_eq (pc' := 71) (tgt := 73) dX12_knownHere_68 (by decide) rfl (fun hc68 => ?_) (fun hc68 => ?_)
        · have H := H.1 hc68
          refine ax_aload_n (pc' := 74) dX12_knownHere_73 rfl rfl ?_
          refine ax_bipush (pc' := 76) (v := (15 : Int32)) dX12_knownHere_74 (by decide) rfl ?_
          refine ax_bipush (pc' := 78) (v := (20 : Int32)) dX12_knownHere_76 (by decide) rfl ?_
          refine ax_bipush (pc' := 80) (v := (8 : Int32)) dX12_knownHere_78 (by decide) rfl ?_
          refine ax_iconst (pc' := 81) (v := (5 : Int32)) dX12_knownHere_80 (by decide) rfl ?_
          refine ax_bipush (pc' := 83) (v := (18 : Int32)) dX12_knownHere_81 (by decide) rfl ?_
          refine ax_bipush (pc' := 85) (v := (19 : Int32)) dX12_knownHere_83 (by decide) rfl ?_
          refine ay_V6 (pc' := 88) (ce' := 0) (sl' := 0) (mc2 := 0) (ms2 := 0) (I2 := i_X12_takes) dX12_knownHere_85 ml_X12_234 sh_69 (by decide) rfl rfl rfl rfl rfl rfl rfl rfl rfl (ac_M.imp (o_X12_takes _ (15 : Int32) (20 : Int32) (8 : Int32) (5 : Int32) (18 : Int32) (19 : Int32) H) ?_)
          rintro _ _ ⟨r85, s85, rfl, rfl, H⟩
          refine ax_if_eq (pc' := 91) (tgt := 93) dX12_knownHere_88 (by decide) rfl (fun hc88 => ?_) (fun hc88 => ?_)
          · have H := H.1 hc88
            refine ax_aload_n (pc' := 94) dX12_knownHere_93 rfl rfl ?_
            refine ax_iconst (pc' := 95) (v := (3 : Int32)) dX12_knownHere_94 (by decide) rfl ?_
            refine ax_bipush (pc' := 97) (v := (15 : Int32)) dX12_knownHere_95 (by decide) rfl ?_
            refine ax_bipush (pc' := 99) (v := (15 : Int32)) dX12_knownHere_97 (by decide) rfl ?_
            refine ax_bipush (pc' := 101) (v := (12 : Int32)) dX12_knownHere_99 (by decide) rfl ?_
            refine ax_iconst (pc' := 102) (v := (0 : Int32)) dX12_knownHere_101 (by decide) rfl ?_
            refine ax_iconst (pc' := 103) (v := (0 : Int32)) dX12_knownHere_102 (by decide) rfl ?_
            refine ay_V6 (pc' := 106) (ce' := 0) (sl' := 0) (mc2 := 0) (ms2 := 0) (I2 := i_X12_takes) dX12_knownHere_103 ml_X12_234 sh_69 (by decide) rfl rfl rfl rfl rfl rfl rfl rfl rfl (ac_M.imp (o_X12_takes _ (3 : Int32) (15 : Int32) (15 : Int32) (12 : Int32) (0 : Int32) (0 : Int32) H) ?_)
            rintro _ _ ⟨r103, s103, rfl, rfl, H⟩
            refine ax_if_eq (pc' := 109) (tgt := 111) dX12_knownHere_106 (by decide) rfl (fun hc106 => ?_) (fun hc106 => ?_)
            · have H := H.1 hc106
              refine ax_aload_n (pc' := 112) dX12_knownHere_111 rfl rfl ?_
              refine ax_iconst (pc' := 113) (v := (4 : Int32)) dX12_knownHere_112 (by decide) rfl ?_
              refine ax_iconst (pc' := 114) (v := (1 : Int32)) dX12_knownHere_113 (by decide) rfl ?_
              refine ax_bipush (pc' := 116) (v := (25 : Int32)) dX12_knownHere_114 (by decide) rfl ?_
              refine ax_iconst (pc' := 117) (v := (0 : Int32)) dX12_knownHere_116 (by decide) rfl ?_
              refine ax_iconst (pc' := 118) (v := (0 : Int32)) dX12_knownHere_117 (by decide) rfl ?_
              refine ax_iconst (pc' := 119) (v := (0 : Int32)) dX12_knownHere_118 (by decide) rfl ?_
              refine ay_V6 (pc' := 122) (ce' := 0) (sl' := 0) (mc2 := 0) (ms2 := 0) (I2 := i_X12_takes) dX12_knownHere_119 ml_X12_234 sh_69 (by decide) rfl rfl rfl rfl rfl rfl rfl rfl rfl (ac_M.imp (o_X12_takes _ (4 : Int32) (1 : Int32) (25 : Int32) (0 : Int32) (0 : Int32) (0 : Int32) H) ?_)
              rintro _ _ ⟨r119, s119, rfl, rfl, H⟩
              refine ax_if_eq (pc' := 125) (tgt := 128) dX12_knownHere_122 (by decide) rfl (fun hc122 => ?_) (fun hc122 => ?_)
              · have H := H.1 hc122
                refine ax_aload_n (pc' := 129) dX12_knownHere_128 rfl rfl ?_
                refine ax_iconst (pc' := 130) (v := (2 : Int32)) dX12_knownHere_129 (by decide) rfl ?_
                refine ax_iconst (pc' := 131) (v := (5 : Int32)) dX12_knownHere_130 (by decide) rfl ?_
                refine ax_iconst (pc' := 132) (v := (1 : Int32)) dX12_knownHere_131 (by decide) rfl ?_
                refine ax_bipush (pc' := 134) (v := (19 : Int32)) dX12_knownHere_132 (by decide) rfl ?_
                refine ax_bipush (pc' := 136) (v := (20 : Int32)) dX12_knownHere_134 (by decide) rfl ?_
                refine ax_iconst (pc' := 137) (v := (0 : Int32)) dX12_knownHere_136 (by decide) rfl ?_
                refine ay_V6 (pc' := 140) (ce' := 0) (sl' := 0) (mc2 := 0) (ms2 := 0) (I2 := i_X12_takes) dX12_knownHere_137 ml_X12_234 sh_69 (by decide) rfl rfl rfl rfl rfl rfl rfl rfl rfl (ac_M.imp (o_X12_takes _ (2 : Int32) (5 : Int32) (1 : Int32) (19 : Int32) (20 : Int32) (0 : Int32) H) ?_)
                rintro _ _ ⟨r137, s137, rfl, rfl, H⟩
                refine ax_if_eq (pc' := 143) (tgt := 148) dX12_knownHere_140 (by decide) rfl (fun hc140 => ?_) (fun hc140 => ?_)
                · have H := H.1 hc140
                  refine ax_iconst (pc' := 149) (v := (-1 : Int32)) dX12_knownHere_148 (by decide) rfl ?_
                  exact ax_iret dX12_knownHere_149 rfl rfl rfl ⟨_, _, rfl, rfl, H⟩
                · have H := H.2 hc140
                  refine ax_bipush (pc' := 145) (v := (7 : Int32)) dX12_knownHere_143 (by decide) rfl ?_
                  refine ax_goto (tgt := 149) dX12_knownHere_145 (by decide) ?_
                  exact ax_iret dX12_knownHere_149 rfl rfl rfl ⟨_, _, rfl, rfl, H⟩
              · have H := H.2 hc122
                refine ax_bipush (pc' := 127) (v := (6 : Int32)) dX12_knownHere_125 (by decide) rfl ?_
                exact ax_iret dX12_knownHere_127 rfl rfl rfl ⟨_, _, rfl, rfl, H⟩
            · have H := H.2 hc106
              refine ax_iconst (pc' := 110) (v := (5 : Int32)) dX12_knownHere_109 (by decide) rfl ?_
              exact ax_iret dX12_knownHere_110 rfl rfl rfl ⟨_, _, rfl, rfl, H⟩
          · have H := H.2 hc88
            refine ax_iconst (pc' := 92) (v := (4 : Int32)) dX12_knownHere_91 (by decide) rfl ?_
            exact ax_iret dX12_knownHere_92 rfl rfl rfl ⟨_, _, rfl, rfl, H⟩
        · have H := H.2 hc68
          refine ax_iconst (pc' := 72) (v := (3 : Int32)) dX12_knownHere_71 (by decide) rfl ?_
          exact ax_iret dX12_knownHere_72 rfl rfl rfl ⟨_, _, rfl, rfl, H⟩
      · have H := H.2 hc49
        refine ax_iconst (pc' := 53) (v := (2 : Int32)) dX12_knownHere_52 (by decide) rfl ?_
        exact ax_iret dX12_knownHere_53 rfl rfl rfl ⟨_, _, rfl, rfl, H⟩
    · have H := H.2 hc33
      refine ax_iconst (pc' := 37) (v := (1 : Int32)) dX12_knownHere_36 (by decide) rfl ?_
      exact ax_iret dX12_knownHere_37 rfl rfl rfl ⟨_, _, rfl, rfl, H⟩
  · have H := H.2 hc15
    refine ax_iconst (pc' := 19) (v := (0 : Int32)) dX12_knownHere_18 (by decide) rfl ?_
    exact ax_iret dX12_knownHere_19 rfl rfl rfl ⟨_, _, rfl, rfl, H⟩
theorem o_X12_one {g : ac_G} {τ : Nat → Nat → Int64} (d : Nat)  {Rm : (ac_m → Prop) → ac_m → Prop} (hRm : ∀ (e : Nat)  (Q : ac_m → Prop) (s : ac_m), Rm  Q s → ac_M g i_X12_sum (d + e) 0 0 [.ref 69] (false, 586, SH, s, τ) (liV τ Q)) {Q : ac_m → Prop} {s : ac_m} (H : w_X12_one  Q Rm s) : ac_M g i_X12_one (d + 6) 0 0 [.ref 69] (false, 586, SH, s, τ) (liV τ Q) := by
  refine ac_ofX (by decide +kernel) rfl rfl rfl ?_
  refine ax_aload_n (pc' := 1) dX12_one_0 rfl rfl ?_
  refine ax_getI (pc' := 4) dX12_one_1 fl_X12_120 sh_69 rfl rfl rfl ?_
  refine ax_if_eq (pc' := 7) (tgt := 8) dX12_one_4 (by decide) rfl (fun hc4 => ?_) (fun hc4 => ?_)
  · have H := H.1 hc4
    refine ax_aload_n (pc' := 9) dX12_one_8 rfl rfl ?_
    refine ay_V0 (pc' := 12) (ce' := 0) (sl' := 0) (mc2 := 0) (ms2 := 0) (I2 := i_X12_blanks) dX12_one_9 ml_X12_126 sh_69 (by decide) rfl rfl rfl rfl rfl rfl rfl rfl rfl (ac_M.imp (o_X12_blanks _  H) ?_)
    rintro _ _ ⟨s9, rfl, rfl, H⟩
    refine ax_aload_n (pc' := 13) dX12_one_12 rfl rfl ?_
    refine ax_bipush (pc' := 15) (v := (12 : Int32)) dX12_one_13 (by decide) rfl ?_
    refine ax_iconst (pc' := 16) (v := (5 : Int32)) dX12_one_15 (by decide) rfl ?_
    refine ax_iconst (pc' := 17) (v := (1 : Int32)) dX12_one_16 (by decide) rfl ?_
    refine ax_bipush (pc' := 19) (v := (19 : Int32)) dX12_one_17 (by decide) rfl ?_
    refine ax_bipush (pc' := 21) (v := (20 : Int32)) dX12_one_19 (by decide) rfl ?_
    refine ax_iconst (pc' := 22) (v := (0 : Int32)) dX12_one_21 (by decide) rfl ?_
    refine ay_V6 (pc' := 25) (ce' := 0) (sl' := 0) (mc2 := 0) (ms2 := 0) (I2 := i_X12_isWord) dX12_one_22 ml_X12_153 sh_69 (by decide) rfl rfl rfl rfl rfl rfl rfl rfl rfl (ac_M.imp (o_X12_isWord _ (12 : Int32) (5 : Int32) (1 : Int32) (19 : Int32) (20 : Int32) (0 : Int32) H) ?_)
    rintro _ _ ⟨r22, s22, rfl, rfl, H⟩
    refine ax_if_eq (pc' := 28) (tgt := 33) dX12_one_25 (by decide) rfl (fun hc25 => ?_) (fun hc25 => ?_)
    · have H := H.1 hc25
      refine ax_aload_n (pc' := 34) dX12_one_33 rfl rfl ?_
      refine ax_bipush (pc' := 36) (v := (13 : Int32)) dX12_one_34 (by decide) rfl ?_
      refine ax_bipush (pc' := 38) (v := (15 : Int32)) dX12_one_36 (by decide) rfl ?_
      refine ax_bipush (pc' := 40) (v := (19 : Int32)) dX12_one_38 (by decide) rfl ?_
      refine ax_bipush (pc' := 42) (v := (20 : Int32)) dX12_one_40 (by decide) rfl ?_
      refine ax_iconst (pc' := 43) (v := (0 : Int32)) dX12_one_42 (by decide) rfl ?_
      refine ax_iconst (pc' := 44) (v := (0 : Int32)) dX12_one_43 (by decide) rfl ?_
      refine ay_V6 (pc' := 47) (ce' := 0) (sl' := 0) (mc2 := 0) (ms2 := 0) (I2 := i_X12_isWord) dX12_one_44 ml_X12_153 sh_69 (by decide) rfl rfl rfl rfl rfl rfl rfl rfl rfl (ac_M.imp (o_X12_isWord _ (13 : Int32) (15 : Int32) (19 : Int32) (20 : Int32) (0 : Int32) (0 : Int32) H) ?_)
      rintro _ _ ⟨r44, s44, rfl, rfl, H⟩
      refine ax_if_eq (pc' := 50) (tgt := 55) dX12_one_47 (by decide) rfl (fun hc47 => ?_) (fun hc47 => ?_)
      · have H := H.1 hc47
        refine ax_iconst (pc' := 56) (v := (-1 : Int32)) dX12_one_55 (by decide) rfl ?_
        refine ax_istore_n (pc' := 57) dX12_one_56 rfl rfl rfl ?_
        refine ax_iload_n (pc' := 58) dX12_one_57 rfl rfl ?_
        refine ax_iconst (pc' := 59) (v := (-1 : Int32)) dX12_one_58 (by decide) rfl ?_
        refine ax_icmp_eq (pc' := 62) (tgt := 117) dX12_one_59 (by decide) rfl (fun hc59 => ?_) (fun hc59 => ?_)
        · have H := H.1 hc59
          refine ax_aload_n (pc' := 118) dX12_one_117 rfl rfl ?_
          refine ax_aload_n (pc' := 119) dX12_one_118 rfl rfl ?_
          refine ax_getI (pc' := 122) dX12_one_119 fl_X12_113 sh_69 rfl rfl rfl ?_
          refine ay_V1 (pc' := 125) (ce' := 0) (sl' := 0) (mc2 := 0) (ms2 := 0) (I2 := i_X12_byteAt) dX12_one_122 ml_X12_116 sh_69 (by decide) rfl rfl rfl rfl rfl rfl rfl rfl rfl (ac_M.imp (o_X12_byteAt _ (s44 69 4) H) ?_)
          rintro _ _ ⟨r122, s122, rfl, rfl, H⟩
          refine ax_bipush (pc' := 127) (v := (40 : Int32)) dX12_one_125 (by decide) rfl ?_
          refine ax_icmp_ne (pc' := 130) (tgt := 169) dX12_one_127 (by decide) rfl (fun hc127 => ?_) (fun hc127 => ?_)
          · have H := H.1 hc127
            refine ax_aload_n (pc' := 170) dX12_one_169 rfl rfl ?_
            refine ay_V0 (pc' := 173) (ce' := 0) (sl' := 0) (mc2 := 0) (ms2 := 0) (I2 := i_X12_knownHere) dX12_one_170 ml_X12_244 sh_69 (by decide) rfl rfl rfl rfl rfl rfl rfl rfl rfl (ac_M.imp (o_X12_knownHere _  H) ?_)
            rintro _ _ ⟨r170, s170, rfl, rfl, H⟩
            refine ax_istore_n (pc' := 174) dX12_one_173 rfl rfl rfl ?_
            refine ax_iload_n (pc' := 175) dX12_one_174 rfl rfl ?_
            refine ax_iconst (pc' := 176) (v := (-1 : Int32)) dX12_one_175 (by decide) rfl ?_
            refine ax_icmp_eq (pc' := 179) (tgt := 188) dX12_one_176 (by decide) rfl (fun hc176 => ?_) (fun hc176 => ?_)
            · have H := H.1 hc176
              refine ax_aload_n (pc' := 189) dX12_one_188 rfl rfl ?_
              refine ax_iconst (pc' := 190) (v := (0 : Int32)) dX12_one_189 (by decide) rfl ?_
              refine ax_aload_n (pc' := 191) dX12_one_190 rfl rfl ?_
              refine ax_iconst (pc' := 192) (v := (0 : Int32)) dX12_one_191 (by decide) rfl ?_
              refine ax_sipush (pc' := 195) (v := (999 : Int32)) dX12_one_192 (by decide) rfl ?_
              refine ay_V2 (pc' := 198) (ce' := 0) (sl' := 0) (mc2 := 0) (ms2 := 0) (I2 := i_X12_number) dX12_one_195 ml_X12_166 sh_69 (by decide) rfl rfl rfl rfl rfl rfl rfl rfl rfl (ac_M.imp (o_X12_number _ (0 : Int32) (999 : Int32) H) ?_)
              rintro _ _ ⟨r195, s195, rfl, rfl, H⟩
              refine ay_V2 (pc' := 201) (ce' := 0) (sl' := 0) (mc2 := 0) (ms2 := 0) (I2 := i_X12_notes) dX12_one_198 ml_X12_228 sh_69 (by decide) rfl rfl rfl rfl rfl rfl rfl rfl rfl (ac_M.imp (o_X12_notes _ (0 : Int32) r195 H) ?_)
              rintro _ _ ⟨s198, rfl, rfl, H⟩
              exact ax_vret dX12_one_201 rfl rfl rfl ⟨_, rfl, rfl, H⟩
            · have H := H.2 hc176
              refine ax_aload_n (pc' := 180) dX12_one_179 rfl rfl ?_
              refine ax_iconst (pc' := 181) (v := (1 : Int32)) dX12_one_180 (by decide) rfl ?_
              refine ax_iload_n (pc' := 182) dX12_one_181 rfl rfl ?_
              refine ay_V2 (pc' := 185) (ce' := 0) (sl' := 0) (mc2 := 0) (ms2 := 0) (I2 := i_X12_notes) dX12_one_182 ml_X12_228 sh_69 (by decide) rfl rfl rfl rfl rfl rfl rfl rfl rfl (ac_M.imp (o_X12_notes _ (1 : Int32) r170 H) ?_)
              rintro _ _ ⟨s182, rfl, rfl, H⟩
              refine ax_goto (tgt := 201) dX12_one_185 (by decide) ?_
              exact ax_vret dX12_one_201 rfl rfl rfl ⟨_, rfl, rfl, H⟩
          · have H := H.2 hc127
            refine ax_aload_n (pc' := 131) dX12_one_130 rfl rfl ?_
            refine ay_V0 (pc' := 134) (ce' := 0) (sl' := 0) (mc2 := 0) (ms2 := 0) (I2 := i_X12_opensOne) dX12_one_131 ml_X12_237 sh_69 (by decide) rfl rfl rfl rfl rfl rfl rfl rfl rfl (ac_M.imp (o_X12_opensOne _  H) ?_)
            rintro _ _ ⟨r131, s131, rfl, rfl, H⟩
            refine ax_if_ne (pc' := 137) (tgt := 138) dX12_one_134 (by decide) rfl (fun hc134 => ?_) (fun hc134 => ?_)
            · have H := H.1 hc134
              refine ax_aload_n (pc' := 139) dX12_one_138 rfl rfl ?_
              refine ax_dup (pc' := 140) dX12_one_139 rfl rfl ?_
              refine ax_getI (pc' := 143) dX12_one_140 fl_X12_113 sh_69 rfl rfl rfl ?_
              refine ax_iconst (pc' := 144) (v := (1 : Int32)) dX12_one_143 (by decide) rfl ?_
              refine ax_iadd (pc' := 145) dX12_one_144 rfl ?_
              refine ax_putI (pc' := 148) dX12_one_145 fp_X12_113 sh_69 rfl rfl rfl ?_
              refine ax_aload_n (pc' := 149) dX12_one_148 rfl rfl ?_
              refine ay_V0 (pc' := 152) (ce' := 0) (sl' := 0) (mc2 := 0) (ms2 := 0) (I2 := i_X12_sum) dX12_one_149 ml_X12_241 sh_69 (by decide) rfl rfl rfl rfl rfl rfl rfl rfl rfl (ac_M.imp (hRm _  _ _ H) ?_)
              rintro _ _ ⟨s149, rfl, rfl, H⟩
              refine ax_aload_n (pc' := 153) dX12_one_152 rfl rfl ?_
              refine ax_bipush (pc' := 155) (v := (41 : Int32)) dX12_one_153 (by decide) rfl ?_
              refine ay_V1 (pc' := 158) (ce' := 0) (sl' := 0) (mc2 := 0) (ms2 := 0) (I2 := i_X12_sign) dX12_one_155 ml_X12_179 sh_69 (by decide) rfl rfl rfl rfl rfl rfl rfl rfl rfl (ac_M.imp (o_X12_sign _ (41 : Int32) H) ?_)
              rintro _ _ ⟨s155, rfl, rfl, H⟩
              refine ax_aload_n (pc' := 159) dX12_one_158 rfl rfl ?_
              refine ax_dup (pc' := 160) dX12_one_159 rfl rfl ?_
              refine ax_getI (pc' := 163) dX12_one_160 fl_X12_163 sh_69 rfl rfl rfl ?_
              refine ax_iconst (pc' := 164) (v := (1 : Int32)) dX12_one_163 (by decide) rfl ?_
              refine ax_isub (pc' := 165) dX12_one_164 rfl ?_
              refine ax_putI (pc' := 168) dX12_one_165 fp_X12_163 sh_69 rfl rfl rfl ?_
              exact ax_vret dX12_one_168 rfl rfl rfl ⟨_, rfl, rfl, H⟩
            · have H := H.2 hc134
              exact ax_vret dX12_one_137 rfl rfl rfl ⟨_, rfl, rfl, H⟩
        · have H := H.2 hc59
          refine ax_aload_n (pc' := 63) dX12_one_62 rfl rfl ?_
          refine ay_V0 (pc' := 66) (ce' := 0) (sl' := 0) (mc2 := 0) (ms2 := 0) (I2 := i_X12_opensOne) dX12_one_63 ml_X12_237 sh_69 (by decide) rfl rfl rfl rfl rfl rfl rfl rfl rfl (ac_M.imp (o_X12_opensOne _  H) ?_)
          rintro _ _ ⟨r63, s63, rfl, rfl, H⟩
          refine ax_if_ne (pc' := 69) (tgt := 70) dX12_one_66 (by decide) rfl (fun hc66 => ?_) (fun hc66 => ?_)
          · have H := H.1 hc66
            refine ax_aload_n (pc' := 71) dX12_one_70 rfl rfl ?_
            refine ay_V0 (pc' := 74) (ce' := 0) (sl' := 0) (mc2 := 0) (ms2 := 0) (I2 := i_X12_skipWord) dX12_one_71 ml_X12_157 sh_69 (by decide) rfl rfl rfl rfl rfl rfl rfl rfl rfl (ac_M.imp (o_X12_skipWord _  H) ?_)
            rintro _ _ ⟨s71, rfl, rfl, H⟩
            refine ax_aload_n (pc' := 75) dX12_one_74 rfl rfl ?_
            refine ax_bipush (pc' := 77) (v := (91 : Int32)) dX12_one_75 (by decide) rfl ?_
            refine ay_V1 (pc' := 80) (ce' := 0) (sl' := 0) (mc2 := 0) (ms2 := 0) (I2 := i_X12_sign) dX12_one_77 ml_X12_179 sh_69 (by decide) rfl rfl rfl rfl rfl rfl rfl rfl rfl (ac_M.imp (o_X12_sign _ (91 : Int32) H) ?_)
            rintro _ _ ⟨s77, rfl, rfl, H⟩
            refine ax_aload_n (pc' := 81) dX12_one_80 rfl rfl ?_
            refine ay_V0 (pc' := 84) (ce' := 0) (sl' := 0) (mc2 := 0) (ms2 := 0) (I2 := i_X12_sum) dX12_one_81 ml_X12_241 sh_69 (by decide) rfl rfl rfl rfl rfl rfl rfl rfl rfl (ac_M.imp (hRm _  _ _ H) ?_)
            rintro _ _ ⟨s81, rfl, rfl, H⟩
            refine ax_aload_n (pc' := 85) dX12_one_84 rfl rfl ?_
            refine ax_bipush (pc' := 87) (v := (44 : Int32)) dX12_one_85 (by decide) rfl ?_
            refine ay_V1 (pc' := 90) (ce' := 0) (sl' := 0) (mc2 := 0) (ms2 := 0) (I2 := i_X12_sign) dX12_one_87 ml_X12_179 sh_69 (by decide) rfl rfl rfl rfl rfl rfl rfl rfl rfl (ac_M.imp (o_X12_sign _ (44 : Int32) H) ?_)
            rintro _ _ ⟨s87, rfl, rfl, H⟩
            refine ax_aload_n (pc' := 91) dX12_one_90 rfl rfl ?_
            refine ay_V0 (pc' := 94) (ce' := 0) (sl' := 0) (mc2 := 0) (ms2 := 0) (I2 := i_X12_sum) dX12_one_91 ml_X12_241 sh_69 (by decide) rfl rfl rfl rfl rfl rfl rfl rfl rfl (ac_M.imp (hRm _  _ _ H) ?_)
            rintro _ _ ⟨s91, rfl, rfl, H⟩
            refine ax_aload_n (pc' := 95) dX12_one_94 rfl rfl ?_
            refine ax_bipush (pc' := 97) (v := (93 : Int32)) dX12_one_95 (by decide) rfl ?_
            refine ay_V1 (pc' := 100) (ce' := 0) (sl' := 0) (mc2 := 0) (ms2 := 0) (I2 := i_X12_sign) dX12_one_97 ml_X12_179 sh_69 (by decide) rfl rfl rfl rfl rfl rfl rfl rfl rfl (ac_M.imp (o_X12_sign _ (93 : Int32) H) ?_)
            rintro _ _ ⟨s97, rfl, rfl, H⟩
            refine ax_aload_n (pc' := 101) dX12_one_100 rfl rfl ?_
            refine ax_iload_n (pc' := 102) dX12_one_101 rfl rfl ?_
            refine ax_iconst (pc' := 103) (v := (0 : Int32)) dX12_one_102 (by decide) rfl ?_
            refine ay_V2 (pc' := 106) (ce' := 0) (sl' := 0) (mc2 := 0) (ms2 := 0) (I2 := i_X12_notes) dX12_one_103 ml_X12_228 sh_69 (by decide) rfl rfl rfl rfl rfl rfl rfl rfl rfl (ac_M.imp (o_X12_notes _ (-1 : Int32) (0 : Int32) H) ?_)
            rintro _ _ ⟨s103, rfl, rfl, H⟩
            refine ax_aload_n (pc' := 107) dX12_one_106 rfl rfl ?_
            refine ax_dup (pc' := 108) dX12_one_107 rfl rfl ?_
            refine ax_getI (pc' := 111) dX12_one_108 fl_X12_163 sh_69 rfl rfl rfl ?_
            refine ax_iconst (pc' := 112) (v := (1 : Int32)) dX12_one_111 (by decide) rfl ?_
            refine ax_isub (pc' := 113) dX12_one_112 rfl ?_
            refine ax_putI (pc' := 116) dX12_one_113 fp_X12_163 sh_69 rfl rfl rfl ?_
            exact ax_vret dX12_one_116 rfl rfl rfl ⟨_, rfl, rfl, H⟩
          · have H := H.2 hc66
            exact ax_vret dX12_one_69 rfl rfl rfl ⟨_, rfl, rfl, H⟩
      · have H := H.2 hc47
        refine ax_bipush (pc' := 52) (v := (8 : Int32)) dX12_one_50 (by decide) rfl ?_
        refine ax_goto (tgt := 56) dX12_one_52 (by decide) ?_
        refine ax_istore_n (pc' := 57) dX12_one_56 rfl rfl rfl ?_
        refine ax_iload_n (pc' := 58) dX12_one_57 rfl rfl ?_
        refine ax_iconst (pc' := 59) (v := (-1 : Int32)) dX12_one_58 (by decide) rfl ?_
        refine ax_icmp_eq (pc' := 62) (tgt := 117) dX12_one_59 (by decide) rfl (fun hc59 => ?_) (fun hc59 => ?_)
        · have H := H.1 hc59
          refine ax_aload_n (pc' := 118) dX12_one_117 rfl rfl ?_
          refine ax_aload_n (pc' := 119) dX12_one_118 rfl rfl ?_
          refine ax_getI (pc' := 122) dX12_one_119 fl_X12_113 sh_69 rfl rfl rfl ?_
          refine ay_V1 (pc' := 125) (ce' := 0) (sl' := 0) (mc2 := 0) (ms2 := 0) (I2 := i_X12_byteAt) dX12_one_122 ml_X12_116 sh_69 (by decide) rfl rfl rfl rfl rfl rfl rfl rfl rfl (ac_M.imp (o_X12_byteAt _ (s44 69 4) H) ?_)
          rintro _ _ ⟨r122, s122, rfl, rfl, H⟩
          refine ax_bipush (pc' := 127) (v := (40 : Int32)) dX12_one_125 (by decide) rfl ?_
          refine ax_icmp_ne (pc' := 130) (tgt := 169) dX12_one_127 (by decide) rfl (fun hc127 => ?_) (fun hc127 => ?_)
          · have H := H.1 hc127
            refine ax_aload_n (pc' := 170) dX12_one_169 rfl rfl ?_
            refine ay_V0 (pc' := 173) (ce' := 0) (sl' := 0) (mc2 := 0) (ms2 := 0) (I2 := i_X12_knownHere) dX12_one_170 ml_X12_244 sh_69 (by decide) rfl rfl rfl rfl rfl rfl rfl rfl rfl (ac_M.imp (o_X12_knownHere _  H) ?_)
            rintro _ _ ⟨r170, s170, rfl, rfl, H⟩
            refine ax_istore_n (pc' := 174) dX12_one_173 rfl rfl rfl ?_
            refine ax_iload_n (pc' := 175) dX12_one_174 rfl rfl ?_
            refine ax_iconst (pc' := 176) (v := (-1 : Int32)) dX12_one_175 (by decide) rfl ?_
            refine ax_icmp_eq (pc' := 179) (tgt := 188) dX12_one_176 (by decide) rfl (fun hc176 => ?_) (fun hc176 => ?_)
            · have H := H.1 hc176
              refine ax_aload_n (pc' := 189) dX12_one_188 rfl rfl ?_
              refine ax_iconst (pc' := 190) (v := (0 : Int32)) dX12_one_189 (by decide) rfl ?_
              refine ax_aload_n (pc' := 191) dX12_one_190 rfl rfl ?_
              refine ax_iconst (pc' := 192) (v := (0 : Int32)) dX12_one_191 (by decide) rfl ?_
              refine ax_sipush (pc' := 195) (v := (999 : Int32)) dX12_one_192 (by decide) rfl ?_
              refine ay_V2 (pc' := 198) (ce' := 0) (sl' := 0) (mc2 := 0) (ms2 := 0) (I2 := i_X12_number) dX12_one_195 ml_X12_166 sh_69 (by decide) rfl rfl rfl rfl rfl rfl rfl rfl rfl (ac_M.imp (o_X12_number _ (0 : Int32) (999 : Int32) H) ?_)
              rintro _ _ ⟨r195, s195, rfl, rfl, H⟩
              refine ay_V2 (pc' := 201) (ce' := 0) (sl' := 0) (mc2 := 0) (ms2 := 0) (I2 := i_X12_notes) dX12_one_198 ml_X12_228 sh_69 (by decide) rfl rfl rfl rfl rfl rfl rfl rfl rfl (ac_M.imp (o_X12_notes _ (0 : Int32) r195 H) ?_)
              rintro _ _ ⟨s198, rfl, rfl, H⟩
              exact ax_vret dX12_one_201 rfl rfl rfl ⟨_, rfl, rfl, H⟩
            · have H := H.2 hc176
              refine ax_aload_n (pc' := 180) dX12_one_179 rfl rfl ?_
              refine ax_iconst (pc' := 181) (v := (1 : Int32)) dX12_one_180 (by decide) rfl ?_
              refine ax_iload_n (pc' := 182) dX12_one_181 rfl rfl ?_
              refine ay_V2 (pc' := 185) (ce' := 0) (sl' := 0) (mc2 := 0) (ms2 := 0) (I2 := i_X12_notes) dX12_one_182 ml_X12_228 sh_69 (by decide) rfl rfl rfl rfl rfl rfl rfl rfl rfl (ac_M.imp (o_X12_notes _ (1 : Int32) r170 H) ?_)
              rintro _ _ ⟨s182, rfl, rfl, H⟩
              refine ax_goto (tgt := 201) dX12_one_185 (by decide) ?_
              exact ax_vret dX12_one_201 rfl rfl rfl ⟨_, rfl, rfl, H⟩
          · have H := H.2 hc127
            refine ax_aload_n (pc' := 131) dX12_one_130 rfl rfl ?_
            refine ay_V0 (pc' := 134) (ce' := 0) (sl' := 0) (mc2 := 0) (ms2 := 0) (I2 := i_X12_opensOne) dX12_one_131 ml_X12_237 sh_69 (by decide) rfl rfl rfl rfl rfl rfl rfl rfl rfl (ac_M.imp (o_X12_opensOne _  H) ?_)
            rintro _ _ ⟨r131, s131, rfl, rfl, H⟩
            refine ax_if_ne (pc' := 137) (tgt := 138) dX12_one_134 (by decide) rfl (fun hc134 => ?_) (fun hc134 => ?_)
            · have H := H.1 hc134
              refine ax_aload_n (pc' := 139) dX12_one_138 rfl rfl ?_
              refine ax_dup (pc' := 140) dX12_one_139 rfl rfl ?_
              refine ax_getI (pc' := 143) dX12_one_140 fl_X12_113 sh_69 rfl rfl rfl ?_
              refine ax_iconst (pc' := 144) (v := (1 : Int32)) dX12_one_143 (by decide) rfl ?_
              refine ax_iadd (pc' := 145) dX12_one_144 rfl ?_
              refine ax_putI (pc' := 148) dX12_one_145 fp_X12_113 sh_69 rfl rfl rfl ?_
              refine ax_aload_n (pc' := 149) dX12_one_148 rfl rfl ?_
              refine ay_V0 (pc' := 152) (ce' := 0) (sl' := 0) (mc2 := 0) (ms2 := 0) (I2 := i_X12_sum) dX12_one_149 ml_X12_241 sh_69 (by decide) rfl rfl rfl rfl rfl rfl rfl rfl rfl (ac_M.imp (hRm _  _ _ H) ?_)
              rintro _ _ ⟨s149, rfl, rfl, H⟩
              refine ax_aload_n (pc' := 153) dX12_one_152 rfl rfl ?_
              refine ax_bipush (pc' := 155) (v := (41 : Int32)) dX12_one_153 (by decide) rfl ?_
              refine ay_V1 (pc' := 158) (ce' := 0) (sl' := 0) (mc2 := 0) (ms2 := 0) (I2 := i_X12_sign) dX12_one_155 ml_X12_179 sh_69 (by decide) rfl rfl rfl rfl rfl rfl rfl rfl rfl (ac_M.imp (o_X12_sign _ (41 : Int32) H) ?_)
              rintro _ _ ⟨s155, rfl, rfl, H⟩
              refine ax_aload_n (pc' := 159) dX12_one_158 rfl rfl ?_
              refine ax_dup (pc' := 160) dX12_one_159 rfl rfl ?_
              refine ax_getI (pc' := 163) dX12_one_160 fl_X12_163 sh_69 rfl rfl rfl ?_
              refine ax_iconst (pc' := 164) (v := (1 : Int32)) dX12_one_163 (by decide) rfl ?_
              refine ax_isub (pc' := 165) dX12_one_164 rfl ?_
              refine ax_putI (pc' := 168) dX12_one_165 fp_X12_163 sh_69 rfl rfl rfl ?_
              exact ax_vret dX12_one_168 rfl rfl rfl ⟨_, rfl, rfl, H⟩
            · have H := H.2 hc134
              exact ax_vret dX12_one_137 rfl rfl rfl ⟨_, rfl, rfl, H⟩
        · have H := H.2 hc59
          refine ax_aload_n (pc' := 63) dX12_one_62 rfl rfl ?_
          refine ay_V0 (pc' := 66) (ce' := 0) (sl' := 0) (mc2 := 0) (ms2 := 0) (I2 := i_X12_opensOne) dX12_one_63 ml_X12_237 sh_69 (by decide) rfl rfl rfl rfl rfl rfl rfl rfl rfl (ac_M.imp (o_X12_opensOne _  H) ?_)
          rintro _ _ ⟨r63, s63, rfl, rfl, H⟩
          refine ax_if_ne (pc' := 69) (tgt := 70) dX12_one_66 (by decide) rfl (fun hc66 => ?_) (fun hc66 => ?_)
          · have H := H.1 hc66
            refine ax_aload_n (pc' := 71) dX12_one_70 rfl rfl ?_
            refine ay_V0 (pc' := 74) (ce' := 0) (sl' := 0) (mc2 := 0) (ms2 := 0) (I2 := i_X12_skipWord) dX12_one_71 ml_X12_157 sh_69 (by decide) rfl rfl rfl rfl rfl rfl rfl rfl rfl (ac_M.imp (o_X12_skipWord _  H) ?_)
            rintro _ _ ⟨s71, rfl, rfl, H⟩
            refine ax_aload_n (pc' := 75) dX12_one_74 rfl rfl ?_
            refine ax_bipush (pc' := 77) (v := (91 : Int32)) dX12_one_75 (by decide) rfl ?_
            refine ay_V1 (pc' := 80) (ce' := 0) (sl' := 0) (mc2 := 0) (ms2 := 0) (I2 := i_X12_sign) dX12_one_77 ml_X12_179 sh_69 (by decide) rfl rfl rfl rfl rfl rfl rfl rfl rfl (ac_M.imp (o_X12_sign _ (91 : Int32) H) ?_)
            rintro _ _ ⟨s77, rfl, rfl, H⟩
            refine ax_aload_n (pc' := 81) dX12_one_80 rfl rfl ?_
            refine ay_V0 (pc' := 84) (ce' := 0) (sl' := 0) (mc2 := 0) (ms2 := 0) (I2 := i_X12_sum) dX12_one_81 ml_X12_241 sh_69 (by decide) rfl rfl rfl rfl rfl rfl rfl rfl rfl (ac_M.imp (hRm _  _ _ H) ?_)
            rintro _ _ ⟨s81, rfl, rfl, H⟩
            refine ax_aload_n (pc' := 85) dX12_one_84 rfl rfl ?_
            refine ax_bipush (pc' := 87) (v := (44 : Int32)) dX12_one_85 (by decide) rfl ?_
            refine ay_V1 (pc' := 90) (ce' := 0) (sl' := 0) (mc2 := 0) (ms2 := 0) (I2 := i_X12_sign) dX12_one_87 ml_X12_179 sh_69 (by decide) rfl rfl rfl rfl rfl rfl rfl rfl rfl (ac_M.imp (o_X12_sign _ (44 : Int32) H) ?_)
            rintro _ _ ⟨s87, rfl, rfl, H⟩
            refine ax_aload_n (pc' := 91) dX12_one_90 rfl rfl ?_
            refine ay_V0 (pc' := 94) (ce' := 0) (sl' := 0) (mc2 := 0) (ms2 := 0) (I2 := i_X12_sum) dX12_one_91 ml_X12_241 sh_69 (by decide) rfl rfl rfl rfl rfl rfl rfl rfl rfl (ac_M.imp (hRm _  _ _ H) ?_)
            rintro _ _ ⟨s91, rfl, rfl, H⟩
            refine ax_aload_n (pc' := 95) dX12_one_94 rfl rfl ?_
            refine ax_bipush (pc' := 97) (v := (93 : Int32)) dX12_one_95 (by decide) rfl ?_
            refine ay_V1 (pc' := 100) (ce' := 0) (sl' := 0) (mc2 := 0) (ms2 := 0) (I2 := i_X12_sign) dX12_one_97 ml_X12_179 sh_69 (by decide) rfl rfl rfl rfl rfl rfl rfl rfl rfl (ac_M.imp (o_X12_sign _ (93 : Int32) H) ?_)
            rintro _ _ ⟨s97, rfl, rfl, H⟩
            refine ax_aload_n (pc' := 101) dX12_one_100 rfl rfl ?_
            refine ax_iload_n (pc' := 102) dX12_one_101 rfl rfl ?_
            refine ax_iconst (pc' := 103) (v := (0 : Int32)) dX12_one_102 (by decide) rfl ?_
            refine ay_V2 (pc' := 106) (ce' := 0) (sl' := 0) (mc2 := 0) (ms2 := 0) (I2 := i_X12_notes) dX12_one_103 ml_X12_228 sh_69 (by decide) rfl rfl rfl rfl rfl rfl rfl rfl rfl (ac_M.imp (o_X12_notes _ (8 : Int32) (0 : Int32) H) ?_)
            rintro _ _ ⟨s103, rfl, rfl, H⟩
            refine ax_aload_n (pc' := 107) dX12_one_106 rfl rfl ?_
            refine ax_dup (pc' := 108) dX12_one_107 rfl rfl ?_
            refine ax_getI (pc' := 111) dX12_one_108 fl_X12_163 sh_69 rfl rfl rfl ?_
            refine ax_iconst (pc' := 112) (v := (1 : Int32)) dX12_one_111 (by decide) rfl ?_
            refine ax_isub (pc' := 113) dX12_one_112 rfl ?_
            refine ax_putI (pc' := 116) dX12_one_113 fp_X12_163 sh_69 rfl rfl rfl ?_
            exact ax_vret dX12_one_116 rfl rfl rfl ⟨_, rfl, rfl, H⟩
          · have H := H.2 hc66
            exact ax_vret dX12_one_69 rfl rfl rfl ⟨_, rfl, rfl, H⟩
    · have H := H.2 hc25
      refine ax_bipush (pc' := 30) (v := (7 : Int32)) dX12_one_28 (by decide) rfl ?_
      refine ax_goto (tgt := 56) dX12_one_30 (by decide) ?_
      refine ax_istore_n (pc' := 57) dX12_one_56 rfl rfl rfl ?_
      refine ax_iload_n (pc' := 58) dX12_one_57 rfl rfl ?_
      refine ax_iconst (pc' := 59) (v := (-1 : Int32)) dX12_one_58 (by decide) rfl ?_
      refine ax_icmp_eq (pc' := 62) (tgt := 117) dX12_one_59 (by decide) rfl (fun hc59 => ?_) (fun hc59 => ?_)
      · have H := H.1 hc59
        refine ax_aload_n (pc' := 118) dX12_one_117 rfl rfl ?_
        refine ax_aload_n (pc' := 119) dX12_one_118 rfl rfl ?_
        refine ax_getI (pc' := 122) dX12_one_119 fl_X12_113 sh_69 rfl rfl rfl ?_
        refine ay_V1 (pc' := 125) (ce' := 0) (sl' := 0) (mc2 := 0) (ms2 := 0) (I2 := i_X12_byteAt) dX12_one_122 ml_X12_116 sh_69 (by decide) rfl rfl rfl rfl rfl rfl rfl rfl rfl (ac_M.imp (o_X12_byteAt _ (s22 69 4) H) ?_)
        rintro _ _ ⟨r122, s122, rfl, rfl, H⟩
        refine ax_bipush (pc' := 127) (v := (40 : Int32)) dX12_one_125 (by decide) rfl ?_
        refine ax_icmp_ne (pc' := 130) (tgt := 169) dX12_one_127 (by decide) rfl (fun hc127 => ?_) (fun hc127 => ?_)
        · have H := H.1 hc127
          refine ax_aload_n (pc' := 170) dX12_one_169 rfl rfl ?_
          refine ay_V0 (pc' := 173) (ce' := 0) (sl' := 0) (mc2 := 0) (ms2 := 0) (I2 := i_X12_knownHere) dX12_one_170 ml_X12_244 sh_69 (by decide) rfl rfl rfl rfl rfl rfl rfl rfl rfl (ac_M.imp (o_X12_knownHere _  H) ?_)
          rintro _ _ ⟨r170, s170, rfl, rfl, H⟩
          refine ax_istore_n (pc' := 174) dX12_one_173 rfl rfl rfl ?_
          refine ax_iload_n (pc' := 175) dX12_one_174 rfl rfl ?_
          refine ax_iconst (pc' := 176) (v := (-1 : Int32)) dX12_one_175 (by decide) rfl ?_
          refine ax_icmp_eq (pc' := 179) (tgt := 188) dX12_one_176 (by decide) rfl (fun hc176 => ?_) (fun hc176 => ?_)
          · have H := H.1 hc176
            refine ax_aload_n (pc' := 189) dX12_one_188 rfl rfl ?_
            refine ax_iconst (pc' := 190) (v := (0 : Int32)) dX12_one_189 (by decide) rfl ?_
            refine ax_aload_n (pc' := 191) dX12_one_190 rfl rfl ?_
            refine ax_iconst (pc' := 192) (v := (0 : Int32)) dX12_one_191 (by decide) rfl ?_
            refine ax_sipush (pc' := 195) (v := (999 : Int32)) dX12_one_192 (by decide) rfl ?_
            refine ay_V2 (pc' := 198) (ce' := 0) (sl' := 0) (mc2 := 0) (ms2 := 0) (I2 := i_X12_number) dX12_one_195 ml_X12_166 sh_69 (by decide) rfl rfl rfl rfl rfl rfl rfl rfl rfl (ac_M.imp (o_X12_number _ (0 : Int32) (999 : Int32) H) ?_)
            rintro _ _ ⟨r195, s195, rfl, rfl, H⟩
            refine ay_V2 (pc' := 201) (ce' := 0) (sl' := 0) (mc2 := 0) (ms2 := 0) (I2 := i_X12_notes) dX12_one_198 ml_X12_228 sh_69 (by decide) rfl rfl rfl rfl rfl rfl rfl rfl rfl (ac_M.imp (o_X12_notes _ (0 : Int32) r195 H) ?_)
            rintro _ _ ⟨s198, rfl, rfl, H⟩
            exact ax_vret dX12_one_201 rfl rfl rfl ⟨_, rfl, rfl, H⟩
          · have H := H.2 hc176
            refine ax_aload_n (pc' := 180) dX12_one_179 rfl rfl ?_
            refine ax_iconst (pc' := 181) (v := (1 : Int32)) dX12_one_180 (by decide) rfl ?_
            refine ax_iload_n (pc' := 182) dX12_one_181 rfl rfl ?_
            refine ay_V2 (pc' := 185) (ce' := 0) (sl' := 0) (mc2 := 0) (ms2 := 0) (I2 := i_X12_notes) dX12_one_182 ml_X12_228 sh_69 (by decide) rfl rfl rfl rfl rfl rfl rfl rfl rfl (ac_M.imp (o_X12_notes _ (1 : Int32) r170 H) ?_)
            rintro _ _ ⟨s182, rfl, rfl, H⟩
            refine ax_goto (tgt := 201) dX12_one_185 (by decide) ?_
            exact ax_vret dX12_one_201 rfl rfl rfl ⟨_, rfl, rfl, H⟩
        · have H := H.2 hc127
          refine ax_aload_n (pc' := 131) dX12_one_130 rfl rfl ?_
          refine ay_V0 (pc' := 134) (ce' := 0) (sl' := 0) (mc2 := 0) (ms2 := 0) (I2 := i_X12_opensOne) dX12_one_131 ml_X12_237 sh_69 (by decide) rfl rfl rfl rfl rfl rfl rfl rfl rfl (ac_M.imp (o_X12_opensOne _  H) ?_)
          rintro _ _ ⟨r131, s131, rfl, rfl, H⟩
          refine ax_if_ne (pc' := 137) (tgt := 138) dX12_one_134 (by decide) rfl (fun hc134 => ?_) (fun hc134 => ?_)
          · have H := H.1 hc134
            refine ax_aload_n (pc' := 139) dX12_one_138 rfl rfl ?_
            refine ax_dup (pc' := 140) dX12_one_139 rfl rfl ?_
            refine ax_getI (pc' := 143) dX12_one_140 fl_X12_113 sh_69 rfl rfl rfl ?_
            refine ax_iconst (pc' := 144) (v := (1 : Int32)) dX12_one_143 (by decide) rfl ?_
            refine ax_iadd (pc' := 145) dX12_one_144 rfl ?_
            refine ax_putI (pc' := 148) dX12_one_145 fp_X12_113 sh_69 rfl rfl rfl ?_
            refine ax_aload_n (pc' := 149) dX12_one_148 rfl rfl ?_
            refine ay_V0 (pc' := 152) (ce' := 0) (sl' := 0) (mc2 := 0) (ms2 := 0) (I2 := i_X12_sum) dX12_one_149 ml_X12_241 sh_69 (by decide) rfl rfl rfl rfl rfl rfl rfl rfl rfl (ac_M.imp (hRm _  _ _ H) ?_)
            rintro _ _ ⟨s149, rfl, rfl, H⟩
            refine ax_aload_n (pc' := 153) dX12_one_152 rfl rfl ?_
            refine ax_bipush (pc' := 155) (v := (41 : Int32)) dX12_one_153 (by decide) rfl ?_
            refine ay_V1 (pc' := 158) (ce' := 0) (sl' := 0) (mc2 := 0) (ms2 := 0) (I2 := i_X12_sign) dX12_one_155 ml_X12_179 sh_69 (by decide) rfl rfl rfl rfl rfl rfl rfl rfl rfl (ac_M.imp (o_X12_sign _ (41 : Int32) H) ?_)
            rintro _ _ ⟨s155, rfl, rfl, H⟩
            refine ax_aload_n (pc' := 159) dX12_one_158 rfl rfl ?_
            refine ax_dup (pc' := 160) dX12_one_159 rfl rfl ?_
            refine ax_getI (pc' := 163) dX12_one_160 fl_X12_163 sh_69 rfl rfl rfl ?_
            refine ax_iconst (pc' := 164) (v := (1 : Int32)) dX12_one_163 (by decide) rfl ?_
            refine ax_isub (pc' := 165) dX12_one_164 rfl ?_
            refine ax_putI (pc' := 168) dX12_one_165 fp_X12_163 sh_69 rfl rfl rfl ?_
            exact ax_vret dX12_one_168 rfl rfl rfl ⟨_, rfl, rfl, H⟩
          · have H := H.2 hc134
            exact ax_vret dX12_one_137 rfl rfl rfl ⟨_, rfl, rfl, H⟩
      · have H := H.2 hc59
        refine ax_aload_n (pc' := 63) dX12_one_62 rfl rfl ?_
        refine ay_V0 (pc' := 66) (ce' := 0) (sl' := 0) (mc2 := 0) (ms2 := 0) (I2 := i_X12_opensOne) dX12_one_63 ml_X12_237 sh_69 (by decide) rfl rfl rfl rfl rfl rfl rfl rfl rfl (ac_M.imp (o_X12_opensOne _  H) ?_)
        rintro _ _ ⟨r63, s63, rfl, rfl, H⟩
        refine ax_if_ne (pc' := 69) (tgt := 70) dX12_one_66 (by decide) rfl (fun hc66 => ?_) (fun hc66 => ?_)
        · have H := H.1 hc66
          refine ax_aload_n (pc' := 71) dX12_one_70 rfl rfl ?_
          refine ay_V0 (pc' := 74) (ce' := 0) (sl' := 0) (mc2 := 0) (ms2 := 0) (I2 := i_X12_skipWord) dX12_one_71 ml_X12_157 sh_69 (by decide) rfl rfl rfl rfl rfl rfl rfl rfl rfl (ac_M.imp (o_X12_skipWord _  H) ?_)
          rintro _ _ ⟨s71, rfl, rfl, H⟩
          refine ax_aload_n (pc' := 75) dX12_one_74 rfl rfl ?_
          refine ax_bipush (pc' := 77) (v := (91 : Int32)) dX12_one_75 (by decide) rfl ?_
          refine ay_V1 (pc' := 80) (ce' := 0) (sl' := 0) (mc2 := 0) (ms2 := 0) (I2 := i_X12_sign) dX12_one_77 ml_X12_179 sh_69 (by decide) rfl rfl rfl rfl rfl rfl rfl rfl rfl (ac_M.imp (o_X12_sign _ (91 : Int32) H) ?_)
          rintro _ _ ⟨s77, rfl, rfl, H⟩
          refine ax_aload_n (pc' := 81) dX12_one_80 rfl rfl ?_
          refine ay_V0 (pc' := 84) (ce' := 0) (sl' := 0) (mc2 := 0) (ms2 := 0) (I2 := i_X12_sum) dX12_one_81 ml_X12_241 sh_69 (by decide) rfl rfl rfl rfl rfl rfl rfl rfl rfl (ac_M.imp (hRm _  _ _ H) ?_)
          rintro _ _ ⟨s81, rfl, rfl, H⟩
          refine ax_aload_n (pc' := 85) dX12_one_84 rfl rfl ?_
          refine ax_bipush (pc' := 87) (v := (44 : Int32)) dX12_one_85 (by decide) rfl ?_
          refine ay_V1 (pc' := 90) (ce' := 0) (sl' := 0) (mc2 := 0) (ms2 := 0) (I2 := i_X12_sign) dX12_one_87 ml_X12_179 sh_69 (by decide) rfl rfl rfl rfl rfl rfl rfl rfl rfl (ac_M.imp (o_X12_sign _ (44 : Int32) H) ?_)
          rintro _ _ ⟨s87, rfl, rfl, H⟩
          refine ax_aload_n (pc' := 91) dX12_one_90 rfl rfl ?_
          refine ay_V0 (pc' := 94) (ce' := 0) (sl' := 0) (mc2 := 0) (ms2 := 0) (I2 := i_X12_sum) dX12_one_91 ml_X12_241 sh_69 (by decide) rfl rfl rfl rfl rfl rfl rfl rfl rfl (ac_M.imp (hRm _  _ _ H) ?_)
          rintro _ _ ⟨s91, rfl, rfl, H⟩
          refine ax_aload_n (pc' := 95) dX12_one_94 rfl rfl ?_
          refine ax_bipush (pc' := 97) (v := (93 : Int32)) dX12_one_95 (by decide) rfl ?_
          refine ay_V1 (pc' := 100) (ce' := 0) (sl' := 0) (mc2 := 0) (ms2 := 0) (I2 := i_X12_sign) dX12_one_97 ml_X12_179 sh_69 (by decide) rfl rfl rfl rfl rfl rfl rfl rfl rfl (ac_M.imp (o_X12_sign _ (93 : Int32) H) ?_)
          rintro _ _ ⟨s97, rfl, rfl, H⟩
          refine ax_aload_n (pc' := 101) dX12_one_100 rfl rfl ?_
          refine ax_iload_n (pc' := 102) dX12_one_101 rfl rfl ?_
          refine ax_iconst (pc' := 103) (v := (0 : Int32)) dX12_one_102 (by decide) rfl ?_
          refine ay_V2 (pc' := 106) (ce' := 0) (sl' := 0) (mc2 := 0) (ms2 := 0) (I2 := i_X12_notes) dX12_one_103 ml_X12_228 sh_69 (by decide) rfl rfl rfl rfl rfl rfl rfl rfl rfl (ac_M.imp (o_X12_notes _ (7 : Int32) (0 : Int32) H) ?_)
          rintro _ _ ⟨s103, rfl, rfl, H⟩
          refine ax_aload_n (pc' := 107) dX12_one_106 rfl rfl ?_
          refine ax_dup (pc' := 108) dX12_one_107 rfl rfl ?_
          refine ax_getI (pc' := 111) dX12_one_108 fl_X12_163 sh_69 rfl rfl rfl ?_
          refine ax_iconst (pc' := 112) (v := (1 : Int32)) dX12_one_111 (by decide) rfl ?_
          refine ax_isub (pc' := 113) dX12_one_112 rfl ?_
          refine ax_putI (pc' := 116) dX12_one_113 fp_X12_163 sh_69 rfl rfl rfl ?_
          exact ax_vret dX12_one_116 rfl rfl rfl ⟨_, rfl, rfl, H⟩
        · have H := H.2 hc66
          exact ax_vret dX12_one_69 rfl rfl rfl ⟨_, rfl, rfl, H⟩
  · have H := H.2 hc4
    exact ax_vret dX12_one_7 rfl rfl rfl ⟨_, rfl, rfl, H⟩
theorem ol_X12_product_4 {g : ac_G} {τ : Nat → Nat → Int64} (d : Nat)  {Rm : (ac_m → Prop) → ac_m → Prop} (hRm : ∀ (e : Nat)  (Q : ac_m → Prop) (s : ac_m), Rm  Q s → ac_M g i_X12_sum (d + e) 0 0 [.ref 69] (false, 586, SH, s, τ) (liV τ Q)) {Q : ac_m → Prop}     {s : ac_m} (H : l_X12_product_4  Q Rm     s) : ac_X g i_X12_product (d + 7) 0 0 (liV τ Q) 0 0 4 [some (.ref 69), none] [] (false, 586, SH, s, τ) := by
  refine H (fun  s => ac_X g i_X12_product (d + 7) 0 0 (liV τ Q) 0 0 4 [some (.ref 69), none] [] (false, 586, SH, s, τ)) ?_
  intro  s H
  refine ax_aload_n (pc' := 5) dX12_product_4 rfl rfl ?_
  refine ax_getI (pc' := 8) dX12_product_5 fl_X12_120 sh_69 rfl rfl rfl ?_
  refine ax_if_ne (pc' := 11) (tgt := 72) dX12_product_8 (by decide) rfl (fun hc8 => ?_) (fun hc8 => ?_)
  · have H := H.1 hc8
    exact ax_vret dX12_product_72 rfl rfl rfl ⟨_, rfl, rfl, H⟩
  · have H := H.2 hc8
    refine ax_aload_n (pc' := 12) dX12_product_11 rfl rfl ?_
    refine ax_bipush (pc' := 14) (v := (42 : Int32)) dX12_product_12 (by decide) rfl ?_
    refine ay_V1 (pc' := 17) (ce' := 0) (sl' := 0) (mc2 := 0) (ms2 := 0) (I2 := i_X12_takesSign) dX12_product_14 ml_X12_225 sh_69 (by decide) rfl rfl rfl rfl rfl rfl rfl rfl rfl (ac_M.imp (o_X12_takesSign _ (42 : Int32) H) ?_)
    rintro _ _ ⟨r14, s14, rfl, rfl, H⟩
    refine ax_if_eq (pc' := 20) (tgt := 24) dX12_product_17 (by decide) rfl (fun hc17 => ?_) (fun hc17 => ?_)
    · have H := H.1 hc17
      refine ax_aload_n (pc' := 25) dX12_product_24 rfl rfl ?_
      refine ax_bipush (pc' := 27) (v := (47 : Int32)) dX12_product_25 (by decide) rfl ?_
      refine ay_V1 (pc' := 30) (ce' := 0) (sl' := 0) (mc2 := 0) (ms2 := 0) (I2 := i_X12_takesSign) dX12_product_27 ml_X12_225 sh_69 (by decide) rfl rfl rfl rfl rfl rfl rfl rfl rfl (ac_M.imp (o_X12_takesSign _ (47 : Int32) H) ?_)
      rintro _ _ ⟨r27, s27, rfl, rfl, H⟩
      refine ax_if_eq (pc' := 33) (tgt := 37) dX12_product_30 (by decide) rfl (fun hc30 => ?_) (fun hc30 => ?_)
      · have H := H.1 hc30
        refine ax_aload_n (pc' := 38) dX12_product_37 rfl rfl ?_
        refine ax_bipush (pc' := 40) (v := (37 : Int32)) dX12_product_38 (by decide) rfl ?_
        refine ay_V1 (pc' := 43) (ce' := 0) (sl' := 0) (mc2 := 0) (ms2 := 0) (I2 := i_X12_takesSign) dX12_product_40 ml_X12_225 sh_69 (by decide) rfl rfl rfl rfl rfl rfl rfl rfl rfl (ac_M.imp (o_X12_takesSign _ (37 : Int32) H) ?_)
        rintro _ _ ⟨r40, s40, rfl, rfl, H⟩
        refine ax_if_eq (pc' := 46) (tgt := 51) dX12_product_43 (by decide) rfl (fun hc43 => ?_) (fun hc43 => ?_)
        · have H := H.1 hc43
          refine ax_iconst (pc' := 52) (v := (-1 : Int32)) dX12_product_51 (by decide) rfl ?_
          refine ax_istore_n (pc' := 53) dX12_product_52 rfl rfl rfl ?_
          refine ax_iload_n (pc' := 54) dX12_product_53 rfl rfl ?_
          refine ax_iconst (pc' := 55) (v := (-1 : Int32)) dX12_product_54 (by decide) rfl ?_
          refine ax_icmp_ne (pc' := 58) (tgt := 59) dX12_product_55 (by decide) rfl (fun hc55 => ?_) (fun hc55 => ?_)
          · have H := H.1 hc55
            refine ax_aload_n (pc' := 60) dX12_product_59 rfl rfl ?_
            refine ay_V0 (pc' := 63) (ce' := 0) (sl' := 0) (mc2 := 0) (ms2 := 0) (I2 := i_X12_one) dX12_product_60 ml_X12_231 sh_69 (by decide) rfl rfl rfl rfl rfl rfl rfl rfl rfl (ac_M.imp (o_X12_one d hRm H) ?_)
            rintro _ _ ⟨s60, rfl, rfl, H⟩
            refine ax_aload_n (pc' := 64) dX12_product_63 rfl rfl ?_
            refine ax_iload_n (pc' := 65) dX12_product_64 rfl rfl ?_
            refine ax_iconst (pc' := 66) (v := (0 : Int32)) dX12_product_65 (by decide) rfl ?_
            refine ay_V2 (pc' := 69) (ce' := 0) (sl' := 0) (mc2 := 0) (ms2 := 0) (I2 := i_X12_notes) dX12_product_66 ml_X12_228 sh_69 (by decide) rfl rfl rfl rfl rfl rfl rfl rfl rfl (ac_M.imp (o_X12_notes _ (-1 : Int32) (0 : Int32) H) ?_)
            rintro _ _ ⟨s66, rfl, rfl, H⟩
            refine ax_goto (tgt := 4) dX12_product_69 (by decide) ?_
            refine ax_drop 1 rfl ?_
            exact H
          · have H := H.2 hc55
            exact ax_vret dX12_product_58 rfl rfl rfl ⟨_, rfl, rfl, H⟩
        · have H := H.2 hc43
          refine ax_bipush (pc' := 48) (v := (6 : Int32)) dX12_product_46 (by decide) rfl ?_
          refine ax_goto (tgt := 52) dX12_product_48 (by decide) ?_
          refine ax_istore_n (pc' := 53) dX12_product_52 rfl rfl rfl ?_
          refine ax_iload_n (pc' := 54) dX12_product_53 rfl rfl ?_
          refine ax_iconst (pc' := 55) (v := (-1 : Int32)) dX12_product_54 (by decide) rfl ?_
          refine ax_icmp_ne (pc' := 58) (tgt := 59) dX12_product_55 (by decide) rfl (fun hc55 => ?_) (fun hc55 => ?_)
          · have H := H.1 hc55
            refine ax_aload_n (pc' := 60) dX12_product_59 rfl rfl ?_
            refine ay_V0 (pc' := 63) (ce' := 0) (sl' := 0) (mc2 := 0) (ms2 := 0) (I2 := i_X12_one) dX12_product_60 ml_X12_231 sh_69 (by decide) rfl rfl rfl rfl rfl rfl rfl rfl rfl (ac_M.imp (o_X12_one d hRm H) ?_)
            rintro _ _ ⟨s60, rfl, rfl, H⟩
            refine ax_aload_n (pc' := 64) dX12_product_63 rfl rfl ?_
            refine ax_iload_n (pc' := 65) dX12_product_64 rfl rfl ?_
            refine ax_iconst (pc' := 66) (v := (0 : Int32)) dX12_product_65 (by decide) rfl ?_
            refine ay_V2 (pc' := 69) (ce' := 0) (sl' := 0) (mc2 := 0) (ms2 := 0) (I2 := i_X12_notes) dX12_product_66 ml_X12_228 sh_69 (by decide) rfl rfl rfl rfl rfl rfl rfl rfl rfl (ac_M.imp (o_X12_notes _ (6 : Int32) (0 : Int32) H) ?_)
            rintro _ _ ⟨s66, rfl, rfl, H⟩
            refine ax_goto (tgt := 4) dX12_product_69 (by decide) ?_
            refine ax_drop 1 rfl ?_
            exact H
          · have H := H.2 hc55
            exact ax_vret dX12_product_58 rfl rfl rfl ⟨_, rfl, rfl, H⟩
      · have H := H.2 hc30
        refine ax_iconst (pc' := 34) (v := (5 : Int32)) dX12_product_33 (by decide) rfl ?_
        refine ax_goto (tgt := 52) dX12_product_34 (by decide) ?_
        refine ax_istore_n (pc' := 53) dX12_product_52 rfl rfl rfl ?_
        refine ax_iload_n (pc' := 54) dX12_product_53 rfl rfl ?_
        refine ax_iconst (pc' := 55) (v := (-1 : Int32)) dX12_product_54 (by decide) rfl ?_
        refine ax_icmp_ne (pc' := 58) (tgt := 59) dX12_product_55 (by decide) rfl (fun hc55 => ?_) (fun hc55 => ?_)
        · have H := H.1 hc55
          refine ax_aload_n (pc' := 60) dX12_product_59 rfl rfl ?_
          refine ay_V0 (pc' := 63) (ce' := 0) (sl' := 0) (mc2 := 0) (ms2 := 0) (I2 := i_X12_one) dX12_product_60 ml_X12_231 sh_69 (by decide) rfl rfl rfl rfl rfl rfl rfl rfl rfl (ac_M.imp (o_X12_one d hRm H) ?_)
          rintro _ _ ⟨s60, rfl, rfl, H⟩
          refine ax_aload_n (pc' := 64) dX12_product_63 rfl rfl ?_
          refine ax_iload_n (pc' := 65) dX12_product_64 rfl rfl ?_
          refine ax_iconst (pc' := 66) (v := (0 : Int32)) dX12_product_65 (by decide) rfl ?_
          refine ay_V2 (pc' := 69) (ce' := 0) (sl' := 0) (mc2 := 0) (ms2 := 0) (I2 := i_X12_notes) dX12_product_66 ml_X12_228 sh_69 (by decide) rfl rfl rfl rfl rfl rfl rfl rfl rfl (ac_M.imp (o_X12_notes _ (5 : Int32) (0 : Int32) H) ?_)
          rintro _ _ ⟨s66, rfl, rfl, H⟩
          refine ax_goto (tgt := 4) dX12_product_69 (by decide) ?_
          refine ax_drop 1 rfl ?_
          exact H
        · have H := H.2 hc55
          exact ax_vret dX12_product_58 rfl rfl rfl ⟨_, rfl, rfl, H⟩
    · have H := H.2 hc17
      refine ax_iconst (pc' := 21) (v := (4 : Int32)) dX12_product_20 (by decide) rfl ?_
      refine ax_goto (tgt := 52) dX12_product_21 (by decide) ?_
      refine ax_istore_n (pc' := 53) dX12_product_52 rfl rfl rfl ?_
      refine ax_iload_n (pc' := 54) dX12_product_53 rfl rfl ?_
      refine ax_iconst (pc' := 55) (v := (-1 : Int32)) dX12_product_54 (by decide) rfl ?_
      refine ax_icmp_ne (pc' := 58) (tgt := 59) dX12_product_55 (by decide) rfl (fun hc55 => ?_) (fun hc55 => ?_)
      · have H := H.1 hc55
        refine ax_aload_n (pc' := 60) dX12_product_59 rfl rfl ?_
        refine ay_V0 (pc' := 63) (ce' := 0) (sl' := 0) (mc2 := 0) (ms2 := 0) (I2 := i_X12_one) dX12_product_60 ml_X12_231 sh_69 (by decide) rfl rfl rfl rfl rfl rfl rfl rfl rfl (ac_M.imp (o_X12_one d hRm H) ?_)
        rintro _ _ ⟨s60, rfl, rfl, H⟩
        refine ax_aload_n (pc' := 64) dX12_product_63 rfl rfl ?_
        refine ax_iload_n (pc' := 65) dX12_product_64 rfl rfl ?_
        refine ax_iconst (pc' := 66) (v := (0 : Int32)) dX12_product_65 (by decide) rfl ?_
        refine ay_V2 (pc' := 69) (ce' := 0) (sl' := 0) (mc2 := 0) (ms2 := 0) (I2 := i_X12_notes) dX12_product_66 ml_X12_228 sh_69 (by decide) rfl rfl rfl rfl rfl rfl rfl rfl rfl (ac_M.imp (o_X12_notes _ (4 : Int32) (0 : Int32) H) ?_)
        rintro _ _ ⟨s66, rfl, rfl, H⟩
        refine ax_goto (tgt := 4) dX12_product_69 (by decide) ?_
        refine ax_drop 1 rfl ?_
        exact H
      · have H := H.2 hc55
        exact ax_vret dX12_product_58 rfl rfl rfl ⟨_, rfl, rfl, H⟩
theorem o_X12_product {g : ac_G} {τ : Nat → Nat → Int64} (d : Nat)  {Rm : (ac_m → Prop) → ac_m → Prop} (hRm : ∀ (e : Nat)  (Q : ac_m → Prop) (s : ac_m), Rm  Q s → ac_M g i_X12_sum (d + e) 0 0 [.ref 69] (false, 586, SH, s, τ) (liV τ Q)) {Q : ac_m → Prop} {s : ac_m} (H : w_X12_product  Q Rm s) : ac_M g i_X12_product (d + 7) 0 0 [.ref 69] (false, 586, SH, s, τ) (liV τ Q) := by
  refine ac_ofX (by decide +kernel) rfl rfl rfl ?_
  refine ax_aload_n (pc' := 1) dX12_product_0 rfl rfl ?_
  refine ay_V0 (pc' := 4) (ce' := 0) (sl' := 0) (mc2 := 0) (ms2 := 0) (I2 := i_X12_one) dX12_product_1 ml_X12_231 sh_69 (by decide) rfl rfl rfl rfl rfl rfl rfl rfl rfl (ac_M.imp (o_X12_one d hRm H) ?_)
  rintro _ _ ⟨s1, rfl, rfl, H⟩
  refine ol_X12_product_4 d  hRm     H
theorem ol_X12_sum_4 {g : ac_G} {τ : Nat → Nat → Int64} (d : Nat)  {Rm : (ac_m → Prop) → ac_m → Prop} (hRm : ∀ (e : Nat)  (Q : ac_m → Prop) (s : ac_m), Rm  Q s → ac_M g i_X12_sum (d + e) 0 0 [.ref 69] (false, 586, SH, s, τ) (liV τ Q)) {Q : ac_m → Prop}     {s : ac_m} (H : l_X12_sum_4  Q Rm     s) : ac_X g i_X12_sum (d + 8) 0 0 (liV τ Q) 0 0 4 [some (.ref 69), none] [] (false, 586, SH, s, τ) := by
  refine H (fun  s => ac_X g i_X12_sum (d + 8) 0 0 (liV τ Q) 0 0 4 [some (.ref 69), none] [] (false, 586, SH, s, τ)) ?_
  intro  s H
  refine ax_aload_n (pc' := 5) dX12_sum_4 rfl rfl ?_
  refine ax_getI (pc' := 8) dX12_sum_5 fl_X12_120 sh_69 rfl rfl rfl ?_
  refine ax_if_ne (pc' := 11) (tgt := 58) dX12_sum_8 (by decide) rfl (fun hc8 => ?_) (fun hc8 => ?_)
  · have H := H.1 hc8
    exact ax_vret dX12_sum_58 rfl rfl rfl ⟨_, rfl, rfl, H⟩
  · have H := H.2 hc8
    refine ax_aload_n (pc' := 12) dX12_sum_11 rfl rfl ?_
    refine ax_bipush (pc' := 14) (v := (43 : Int32)) dX12_sum_12 (by decide) rfl ?_
    refine ay_V1 (pc' := 17) (ce' := 0) (sl' := 0) (mc2 := 0) (ms2 := 0) (I2 := i_X12_takesSign) dX12_sum_14 ml_X12_225 sh_69 (by decide) rfl rfl rfl rfl rfl rfl rfl rfl rfl (ac_M.imp (o_X12_takesSign _ (43 : Int32) H) ?_)
    rintro _ _ ⟨r14, s14, rfl, rfl, H⟩
    refine ax_if_eq (pc' := 20) (tgt := 24) dX12_sum_17 (by decide) rfl (fun hc17 => ?_) (fun hc17 => ?_)
    · have H := H.1 hc17
      refine ax_aload_n (pc' := 25) dX12_sum_24 rfl rfl ?_
      refine ax_bipush (pc' := 27) (v := (45 : Int32)) dX12_sum_25 (by decide) rfl ?_
      refine ay_V1 (pc' := 30) (ce' := 0) (sl' := 0) (mc2 := 0) (ms2 := 0) (I2 := i_X12_takesSign) dX12_sum_27 ml_X12_225 sh_69 (by decide) rfl rfl rfl rfl rfl rfl rfl rfl rfl (ac_M.imp (o_X12_takesSign _ (45 : Int32) H) ?_)
      rintro _ _ ⟨r27, s27, rfl, rfl, H⟩
      refine ax_if_eq (pc' := 33) (tgt := 37) dX12_sum_30 (by decide) rfl (fun hc30 => ?_) (fun hc30 => ?_)
      · have H := H.1 hc30
        refine ax_iconst (pc' := 38) (v := (-1 : Int32)) dX12_sum_37 (by decide) rfl ?_
        refine ax_istore_n (pc' := 39) dX12_sum_38 rfl rfl rfl ?_
        refine ax_iload_n (pc' := 40) dX12_sum_39 rfl rfl ?_
        refine ax_iconst (pc' := 41) (v := (-1 : Int32)) dX12_sum_40 (by decide) rfl ?_
        refine ax_icmp_ne (pc' := 44) (tgt := 45) dX12_sum_41 (by decide) rfl (fun hc41 => ?_) (fun hc41 => ?_)
        · have H := H.1 hc41
          refine ax_aload_n (pc' := 46) dX12_sum_45 rfl rfl ?_
          refine ay_V0 (pc' := 49) (ce' := 0) (sl' := 0) (mc2 := 0) (ms2 := 0) (I2 := i_X12_product) dX12_sum_46 ml_X12_222 sh_69 (by decide) rfl rfl rfl rfl rfl rfl rfl rfl rfl (ac_M.imp (o_X12_product d hRm H) ?_)
          rintro _ _ ⟨s46, rfl, rfl, H⟩
          refine ax_aload_n (pc' := 50) dX12_sum_49 rfl rfl ?_
          refine ax_iload_n (pc' := 51) dX12_sum_50 rfl rfl ?_
          refine ax_iconst (pc' := 52) (v := (0 : Int32)) dX12_sum_51 (by decide) rfl ?_
          refine ay_V2 (pc' := 55) (ce' := 0) (sl' := 0) (mc2 := 0) (ms2 := 0) (I2 := i_X12_notes) dX12_sum_52 ml_X12_228 sh_69 (by decide) rfl rfl rfl rfl rfl rfl rfl rfl rfl (ac_M.imp (o_X12_notes _ (-1 : Int32) (0 : Int32) H) ?_)
          rintro _ _ ⟨s52, rfl, rfl, H⟩
          refine ax_goto (tgt := 4) dX12_sum_55 (by decide) ?_
          refine ax_drop 1 rfl ?_
          exact H
        · have H := H.2 hc41
          exact ax_vret dX12_sum_44 rfl rfl rfl ⟨_, rfl, rfl, H⟩
      · have H := H.2 hc30
        refine ax_iconst (pc' := 34) (v := (3 : Int32)) dX12_sum_33 (by decide) rfl ?_
        refine ax_goto (tgt := 38) dX12_sum_34 (by decide) ?_
        refine ax_istore_n (pc' := 39) dX12_sum_38 rfl rfl rfl ?_
        refine ax_iload_n (pc' := 40) dX12_sum_39 rfl rfl ?_
        refine ax_iconst (pc' := 41) (v := (-1 : Int32)) dX12_sum_40 (by decide) rfl ?_
        refine ax_icmp_ne (pc' := 44) (tgt := 45) dX12_sum_41 (by decide) rfl (fun hc41 => ?_) (fun hc41 => ?_)
        · have H := H.1 hc41
          refine ax_aload_n (pc' := 46) dX12_sum_45 rfl rfl ?_
          refine ay_V0 (pc' := 49) (ce' := 0) (sl' := 0) (mc2 := 0) (ms2 := 0) (I2 := i_X12_product) dX12_sum_46 ml_X12_222 sh_69 (by decide) rfl rfl rfl rfl rfl rfl rfl rfl rfl (ac_M.imp (o_X12_product d hRm H) ?_)
          rintro _ _ ⟨s46, rfl, rfl, H⟩
          refine ax_aload_n (pc' := 50) dX12_sum_49 rfl rfl ?_
          refine ax_iload_n (pc' := 51) dX12_sum_50 rfl rfl ?_
          refine ax_iconst (pc' := 52) (v := (0 : Int32)) dX12_sum_51 (by decide) rfl ?_
          refine ay_V2 (pc' := 55) (ce' := 0) (sl' := 0) (mc2 := 0) (ms2 := 0) (I2 := i_X12_notes) dX12_sum_52 ml_X12_228 sh_69 (by decide) rfl rfl rfl rfl rfl rfl rfl rfl rfl (ac_M.imp (o_X12_notes _ (3 : Int32) (0 : Int32) H) ?_)
          rintro _ _ ⟨s52, rfl, rfl, H⟩
          refine ax_goto (tgt := 4) dX12_sum_55 (by decide) ?_
          refine ax_drop 1 rfl ?_
          exact H
        · have H := H.2 hc41
          exact ax_vret dX12_sum_44 rfl rfl rfl ⟨_, rfl, rfl, H⟩
    · have H := H.2 hc17
      refine ax_iconst (pc' := 21) (v := (2 : Int32)) dX12_sum_20 (by decide) rfl ?_
      refine ax_goto (tgt := 38) dX12_sum_21 (by decide) ?_
      refine ax_istore_n (pc' := 39) dX12_sum_38 rfl rfl rfl ?_
      refine ax_iload_n (pc' := 40) dX12_sum_39 rfl rfl ?_
      refine ax_iconst (pc' := 41) (v := (-1 : Int32)) dX12_sum_40 (by decide) rfl ?_
      refine ax_icmp_ne (pc' := 44) (tgt := 45) dX12_sum_41 (by decide) rfl (fun hc41 => ?_) (fun hc41 => ?_)
      · have H := H.1 hc41
        refine ax_aload_n (pc' := 46) dX12_sum_45 rfl rfl ?_
        refine ay_V0 (pc' := 49) (ce' := 0) (sl' := 0) (mc2 := 0) (ms2 := 0) (I2 := i_X12_product) dX12_sum_46 ml_X12_222 sh_69 (by decide) rfl rfl rfl rfl rfl rfl rfl rfl rfl (ac_M.imp (o_X12_product d hRm H) ?_)
        rintro _ _ ⟨s46, rfl, rfl, H⟩
        refine ax_aload_n (pc' := 50) dX12_sum_49 rfl rfl ?_
        refine ax_iload_n (pc' := 51) dX12_sum_50 rfl rfl ?_
        refine ax_iconst (pc' := 52) (v := (0 : Int32)) dX12_sum_51 (by decide) rfl ?_
        refine ay_V2 (pc' := 55) (ce' := 0) (sl' := 0) (mc2 := 0) (ms2 := 0) (I2 := i_X12_notes) dX12_sum_52 ml_X12_228 sh_69 (by decide) rfl rfl rfl rfl rfl rfl rfl rfl rfl (ac_M.imp (o_X12_notes _ (2 : Int32) (0 : Int32) H) ?_)
        rintro _ _ ⟨s52, rfl, rfl, H⟩
        refine ax_goto (tgt := 4) dX12_sum_55 (by decide) ?_
        refine ax_drop 1 rfl ?_
        exact H
      · have H := H.2 hc41
        exact ax_vret dX12_sum_44 rfl rfl rfl ⟨_, rfl, rfl, H⟩
theorem o_X12_sum {g : ac_G} {τ : Nat → Nat → Int64} (d : Nat)  {Rm : (ac_m → Prop) → ac_m → Prop} (hRm : ∀ (e : Nat)  (Q : ac_m → Prop) (s : ac_m), Rm  Q s → ac_M g i_X12_sum (d + e) 0 0 [.ref 69] (false, 586, SH, s, τ) (liV τ Q)) {Q : ac_m → Prop} {s : ac_m} (H : w_X12_sum  Q Rm s) : ac_M g i_X12_sum (d + 8) 0 0 [.ref 69] (false, 586, SH, s, τ) (liV τ Q) := by
  refine ac_ofX (by decide +kernel) rfl rfl rfl ?_
  refine ax_aload_n (pc' := 1) dX12_sum_0 rfl rfl ?_
  refine ay_V0 (pc' := 4) (ce' := 0) (sl' := 0) (mc2 := 0) (ms2 := 0) (I2 := i_X12_product) dX12_sum_1 ml_X12_222 sh_69 (by decide) rfl rfl rfl rfl rfl rfl rfl rfl rfl (ac_M.imp (o_X12_product d hRm H) ?_)
  rintro _ _ ⟨s1, rfl, rfl, H⟩
  refine ol_X12_sum_4 d  hRm     H
theorem tok_X12_sum {g : ac_G} {τ : Nat → Nat → Int64} : ∀ (k d e : Nat)  (Q : ac_m → Prop) (s : ac_m), tk_X12_sum k  Q s → ac_M g i_X12_sum (d + k * 8 + e) 0 0 [.ref 69] (false, 586, SH, s, τ) (liV τ Q)
  | 0, d, e, Q, s, H => H.elim
  | k + 1, d, e, Q, s, H => by
    have h := o_X12_sum (g := g) (τ := τ) (d + k * 8 + e)  (fun e'  Q s H' => by
      have h2 := tok_X12_sum (g := g) (τ := τ) k d (e + e')  Q s H'
      rwa [show d + k * 8 + (e + e') = d + k * 8 + e + e' by omega] at h2) H
    rwa [show d + k * 8 + e + 8 = d + (k + 1) * 8 + e by omega] at h
theorem to_X12_sum {g : ac_G} {τ : Nat → Nat → Int64} (d : Nat)  {Q : ac_m → Prop} {s : ac_m} (H : t_X12_sum  Q s) : ac_M g i_X12_sum (d + 64) 0 0 [.ref 69] (false, 586, SH, s, τ) (liV τ Q) := tok_X12_sum 8 d 0  Q s H
theorem o_X12_law {g : ac_G} {τ : Nat → Nat → Int64} (d : Nat) (p1 : Int32) {Q : Int32 → ac_m → Prop} {s : ac_m} (H : w_X12_law p1 Q s) : ac_M g i_X12_law (d + 65) 0 0 [.ref 69, .int p1] (false, 586, SH, s, τ) (liI τ Q) := by
  refine ac_ofX (by decide +kernel) rfl rfl rfl ?_
  refine ax_aload_n (pc' := 1) dX12_law_0 rfl rfl ?_
  refine ax_iconst (pc' := 2) (v := (0 : Int32)) dX12_law_1 (by decide) rfl ?_
  refine ax_putI (pc' := 5) dX12_law_2 fp_X12_104 sh_69 rfl rfl rfl ?_
  refine ax_aload_n (pc' := 6) dX12_law_5 rfl rfl ?_
  refine ax_iload_n (pc' := 7) dX12_law_6 rfl rfl ?_
  refine ax_iconst (pc' := 8) (v := (0 : Int32)) dX12_law_7 (by decide) rfl ?_
  refine ax_aload_n (pc' := 9) dX12_law_8 rfl rfl ?_
  refine ax_getI (pc' := 12) dX12_law_9 fl_X12_107 sh_69 rfl rfl rfl ?_
  refine ay_S3 (pc' := 15) (ce' := 0) (sl' := 0) (mc2 := 0) (ms2 := 0) (I2 := i_X12_in) dX12_law_12 ml_X12_138 rfl rfl rfl rfl rfl rfl rfl rfl (ac_M.imp (o_X12_in _ p1 (0 : Int32) ((ac_u s 69 0 (0 : Int32)) 69 1) H) ?_)
  rintro _ _ ⟨r12, s12, rfl, rfl, H⟩
  refine ax_if_eq (pc' := 18) (tgt := 25) dX12_law_15 (by decide) rfl (fun hc15 => ?_) (fun hc15 => ?_)
  · have H := H.1 hc15
    refine ax_iconst (pc' := 26) (v := (1 : Int32)) dX12_law_25 (by decide) rfl ?_
    refine ax_goto (tgt := 30) dX12_law_26 (by decide) ?_
    refine ax_iconst (pc' := 31) (v := (1 : Int32)) dX12_law_30 (by decide) rfl ?_
    refine ax_iconst (pc' := 32) (v := (1 : Int32)) dX12_law_31 (by decide) rfl ?_
    refine ay_V3 (pc' := 35) (ce' := 0) (sl' := 0) (mc2 := 0) (ms2 := 0) (I2 := i_X12_bad) dX12_law_32 ml_X12_183 sh_69 (by decide) rfl rfl rfl rfl rfl rfl rfl rfl rfl (ac_M.imp (o_X12_bad _ (1 : Int32) (1 : Int32) (1 : Int32) H) ?_)
    rintro _ _ ⟨r32, s32, rfl, rfl, H⟩
    refine ax_if_eq (pc' := 38) (tgt := 40) dX12_law_35 (by decide) rfl (fun hc35 => ?_) (fun hc35 => ?_)
    · have H := H.1 hc35
      refine ax_aload_n (pc' := 41) dX12_law_40 rfl rfl ?_
      refine ax_iload_n (pc' := 42) dX12_law_41 rfl rfl ?_
      refine ay_V1 (pc' := 45) (ce' := 0) (sl' := 0) (mc2 := 0) (ms2 := 0) (I2 := i_X12_starts) dX12_law_42 ml_X12_187 sh_69 (by decide) rfl rfl rfl rfl rfl rfl rfl rfl rfl (ac_M.imp (o_X12_starts _ p1 H) ?_)
      rintro _ _ ⟨s42, rfl, rfl, H⟩
      refine ax_aload_n (pc' := 46) dX12_law_45 rfl rfl ?_
      refine ax_iconst (pc' := 47) (v := (0 : Int32)) dX12_law_46 (by decide) rfl ?_
      refine ax_putI (pc' := 50) dX12_law_47 fp_X12_219 sh_69 rfl rfl rfl ?_
      refine ax_aload_n (pc' := 51) dX12_law_50 rfl rfl ?_
      refine ay_V0 (pc' := 54) (ce' := 0) (sl' := 0) (mc2 := 0) (ms2 := 0) (I2 := i_X12_sum) dX12_law_51 ml_X12_241 sh_69 (by decide) rfl rfl rfl rfl rfl rfl rfl rfl rfl (ac_M.imp (to_X12_sum _  H) ?_)
      rintro _ _ ⟨s51, rfl, rfl, H⟩
      refine ax_aload_n (pc' := 55) dX12_law_54 rfl rfl ?_
      refine ay_V0 (pc' := 58) (ce' := 0) (sl' := 0) (mc2 := 0) (ms2 := 0) (I2 := i_X12_blanks) dX12_law_55 ml_X12_126 sh_69 (by decide) rfl rfl rfl rfl rfl rfl rfl rfl rfl (ac_M.imp (o_X12_blanks _  H) ?_)
      rintro _ _ ⟨s55, rfl, rfl, H⟩
      refine ax_aload_n (pc' := 59) dX12_law_58 rfl rfl ?_
      refine ax_getI (pc' := 62) dX12_law_59 fl_X12_120 sh_69 rfl rfl rfl ?_
      refine ax_if_ne (pc' := 65) (tgt := 85) dX12_law_62 (by decide) rfl (fun hc62 => ?_) (fun hc62 => ?_)
      · have H := H.1 hc62
        refine ax_aload_n (pc' := 86) dX12_law_85 rfl rfl ?_
        refine ax_getI (pc' := 89) dX12_law_86 fl_X12_120 sh_69 rfl rfl rfl ?_
        refine ax_if_eq (pc' := 92) (tgt := 97) dX12_law_89 (by decide) rfl (fun hc89 => ?_) (fun hc89 => ?_)
        · have H := H.1 hc89
          refine ax_aload_n (pc' := 98) dX12_law_97 rfl rfl ?_
          refine ax_iconst (pc' := 99) (v := (-1 : Int32)) dX12_law_98 (by decide) rfl ?_
          refine ax_putI (pc' := 102) dX12_law_99 fp_X12_9 sh_69 rfl rfl rfl ?_
          refine ax_aload_n (pc' := 103) dX12_law_102 rfl rfl ?_
          refine ax_aload_n (pc' := 104) dX12_law_103 rfl rfl ?_
          refine ax_getI (pc' := 107) dX12_law_104 fl_X12_219 sh_69 rfl rfl rfl ?_
          refine ax_putI (pc' := 110) dX12_law_107 fp_X12_204 sh_69 rfl rfl rfl ?_
          refine ax_aload_n (pc' := 111) dX12_law_110 rfl rfl ?_
          refine ax_getR (pc' := 114) dX12_law_111 fl_X12_49 sh_69 rfl rfl rfl ?_
          refine ax_aload_n (pc' := 115) dX12_law_114 rfl rfl ?_
          refine ax_getR (pc' := 118) dX12_law_115 fl_X12_46 sh_69 rfl rfl rfl ?_
          refine ax_aload_n (pc' := 119) dX12_law_118 rfl rfl ?_
          refine ax_getI (pc' := 122) dX12_law_119 fl_X12_204 sh_69 rfl rfl rfl ?_
          refine ay_S3 (pc' := 125) (ce' := 0) (sl' := 0) (mc2 := 0) (ms2 := 0) (I2 := i_X12_lays) dX12_law_122 ml_X12_196 rfl rfl rfl rfl rfl rfl rfl rfl (ac_M.imp (o_X12_lays _ 298 160 299 2 137 160 138 ((ac_u (ac_u s55 69 3 (-1 : Int32)) 69 19 ((ac_u s55 69 3 (-1 : Int32)) 69 20)) 69 19) sh_298 rfl sh_r_299 sh_n_299 sh_137 rfl sh_r_138 sh_n_138 H) ?_)
          rintro _ _ ⟨s122, rfl, rfl, H⟩
          refine ax_iconst (pc' := 126) (v := (1 : Int32)) dX12_law_125 (by decide) rfl ?_
          exact ax_iret dX12_law_126 rfl rfl rfl ⟨_, _, rfl, rfl, H⟩
        · have H := H.2 hc89
          refine ax_aload_n (pc' := 93) dX12_law_92 rfl rfl ?_
          refine ay_V0 (pc' := 96) (ce' := 0) (sl' := 0) (mc2 := 0) (ms2 := 0) (I2 := i_X12_ends) dX12_law_93 ml_X12_193 sh_69 (by decide) rfl rfl rfl rfl rfl rfl rfl rfl rfl (ac_M.imp (o_X12_ends _  H) ?_)
          rintro _ _ ⟨r93, s93, rfl, rfl, H⟩
          exact ax_iret dX12_law_96 rfl rfl rfl ⟨_, _, rfl, rfl, H⟩
      · have H := H.2 hc62
        refine ax_aload_n (pc' := 66) dX12_law_65 rfl rfl ?_
        refine ax_getI (pc' := 69) dX12_law_66 fl_X12_113 sh_69 rfl rfl rfl ?_
        refine ax_aload_n (pc' := 70) dX12_law_69 rfl rfl ?_
        refine ax_getI (pc' := 73) dX12_law_70 fl_X12_110 sh_69 rfl rfl rfl ?_
        refine ax_icmp_ge (pc' := 76) (tgt := 85) dX12_law_73 (by decide) rfl (fun hc73 => ?_) (fun hc73 => ?_)
        · have H := H.1 hc73
          refine ax_aload_n (pc' := 86) dX12_law_85 rfl rfl ?_
          refine ax_getI (pc' := 89) dX12_law_86 fl_X12_120 sh_69 rfl rfl rfl ?_
          refine ax_if_eq (pc' := 92) (tgt := 97) dX12_law_89 (by decide) rfl (fun hc89 => ?_) (fun hc89 => ?_)
          · have H := H.1 hc89
            refine ax_aload_n (pc' := 98) dX12_law_97 rfl rfl ?_
            refine ax_iconst (pc' := 99) (v := (-1 : Int32)) dX12_law_98 (by decide) rfl ?_
            refine ax_putI (pc' := 102) dX12_law_99 fp_X12_9 sh_69 rfl rfl rfl ?_
            refine ax_aload_n (pc' := 103) dX12_law_102 rfl rfl ?_
            refine ax_aload_n (pc' := 104) dX12_law_103 rfl rfl ?_
            refine ax_getI (pc' := 107) dX12_law_104 fl_X12_219 sh_69 rfl rfl rfl ?_
            refine ax_putI (pc' := 110) dX12_law_107 fp_X12_204 sh_69 rfl rfl rfl ?_
            refine ax_aload_n (pc' := 111) dX12_law_110 rfl rfl ?_
            refine ax_getR (pc' := 114) dX12_law_111 fl_X12_49 sh_69 rfl rfl rfl ?_
            refine ax_aload_n (pc' := 115) dX12_law_114 rfl rfl ?_
            refine ax_getR (pc' := 118) dX12_law_115 fl_X12_46 sh_69 rfl rfl rfl ?_
            refine ax_aload_n (pc' := 119) dX12_law_118 rfl rfl ?_
            refine ax_getI (pc' := 122) dX12_law_119 fl_X12_204 sh_69 rfl rfl rfl ?_
            refine ay_S3 (pc' := 125) (ce' := 0) (sl' := 0) (mc2 := 0) (ms2 := 0) (I2 := i_X12_lays) dX12_law_122 ml_X12_196 rfl rfl rfl rfl rfl rfl rfl rfl (ac_M.imp (o_X12_lays _ 298 160 299 2 137 160 138 ((ac_u (ac_u s55 69 3 (-1 : Int32)) 69 19 ((ac_u s55 69 3 (-1 : Int32)) 69 20)) 69 19) sh_298 rfl sh_r_299 sh_n_299 sh_137 rfl sh_r_138 sh_n_138 H) ?_)
            rintro _ _ ⟨s122, rfl, rfl, H⟩
            refine ax_iconst (pc' := 126) (v := (1 : Int32)) dX12_law_125 (by decide) rfl ?_
            exact ax_iret dX12_law_126 rfl rfl rfl ⟨_, _, rfl, rfl, H⟩
          · have H := H.2 hc89
            refine ax_aload_n (pc' := 93) dX12_law_92 rfl rfl ?_
            refine ay_V0 (pc' := 96) (ce' := 0) (sl' := 0) (mc2 := 0) (ms2 := 0) (I2 := i_X12_ends) dX12_law_93 ml_X12_193 sh_69 (by decide) rfl rfl rfl rfl rfl rfl rfl rfl rfl (ac_M.imp (o_X12_ends _  H) ?_)
            rintro _ _ ⟨r93, s93, rfl, rfl, H⟩
            exact ax_iret dX12_law_96 rfl rfl rfl ⟨_, _, rfl, rfl, H⟩
        · have H := H.2 hc73
          refine ax_aload_n (pc' := 77) dX12_law_76 rfl rfl ?_
          refine ax_iconst (pc' := 78) (v := (1 : Int32)) dX12_law_77 (by decide) rfl ?_
          refine ax_aload_n (pc' := 79) dX12_law_78 rfl rfl ?_
          refine ax_getI (pc' := 82) dX12_law_79 fl_X12_113 sh_69 rfl rfl rfl ?_
          refine ay_V2 (pc' := 85) (ce' := 0) (sl' := 0) (mc2 := 0) (ms2 := 0) (I2 := i_X12_wrong) dX12_law_82 ml_X12_133 sh_69 (by decide) rfl rfl rfl rfl rfl rfl rfl rfl rfl (ac_M.imp (o_X12_wrong _ (1 : Int32) (s55 69 4) H) ?_)
          rintro _ _ ⟨s82, rfl, rfl, H⟩
          refine ax_aload_n (pc' := 86) dX12_law_85 rfl rfl ?_
          refine ax_getI (pc' := 89) dX12_law_86 fl_X12_120 sh_69 rfl rfl rfl ?_
          refine ax_if_eq (pc' := 92) (tgt := 97) dX12_law_89 (by decide) rfl (fun hc89 => ?_) (fun hc89 => ?_)
          · have H := H.1 hc89
            refine ax_aload_n (pc' := 98) dX12_law_97 rfl rfl ?_
            refine ax_iconst (pc' := 99) (v := (-1 : Int32)) dX12_law_98 (by decide) rfl ?_
            refine ax_putI (pc' := 102) dX12_law_99 fp_X12_9 sh_69 rfl rfl rfl ?_
            refine ax_aload_n (pc' := 103) dX12_law_102 rfl rfl ?_
            refine ax_aload_n (pc' := 104) dX12_law_103 rfl rfl ?_
            refine ax_getI (pc' := 107) dX12_law_104 fl_X12_219 sh_69 rfl rfl rfl ?_
            refine ax_putI (pc' := 110) dX12_law_107 fp_X12_204 sh_69 rfl rfl rfl ?_
            refine ax_aload_n (pc' := 111) dX12_law_110 rfl rfl ?_
            refine ax_getR (pc' := 114) dX12_law_111 fl_X12_49 sh_69 rfl rfl rfl ?_
            refine ax_aload_n (pc' := 115) dX12_law_114 rfl rfl ?_
            refine ax_getR (pc' := 118) dX12_law_115 fl_X12_46 sh_69 rfl rfl rfl ?_
            refine ax_aload_n (pc' := 119) dX12_law_118 rfl rfl ?_
            refine ax_getI (pc' := 122) dX12_law_119 fl_X12_204 sh_69 rfl rfl rfl ?_
            refine ay_S3 (pc' := 125) (ce' := 0) (sl' := 0) (mc2 := 0) (ms2 := 0) (I2 := i_X12_lays) dX12_law_122 ml_X12_196 rfl rfl rfl rfl rfl rfl rfl rfl (ac_M.imp (o_X12_lays _ 298 160 299 2 137 160 138 ((ac_u (ac_u s82 69 3 (-1 : Int32)) 69 19 ((ac_u s82 69 3 (-1 : Int32)) 69 20)) 69 19) sh_298 rfl sh_r_299 sh_n_299 sh_137 rfl sh_r_138 sh_n_138 H) ?_)
            rintro _ _ ⟨s122, rfl, rfl, H⟩
            refine ax_iconst (pc' := 126) (v := (1 : Int32)) dX12_law_125 (by decide) rfl ?_
            exact ax_iret dX12_law_126 rfl rfl rfl ⟨_, _, rfl, rfl, H⟩
          · have H := H.2 hc89
            refine ax_aload_n (pc' := 93) dX12_law_92 rfl rfl ?_
            refine ay_V0 (pc' := 96) (ce' := 0) (sl' := 0) (mc2 := 0) (ms2 := 0) (I2 := i_X12_ends) dX12_law_93 ml_X12_193 sh_69 (by decide) rfl rfl rfl rfl rfl rfl rfl rfl rfl (ac_M.imp (o_X12_ends _  H) ?_)
            rintro _ _ ⟨r93, s93, rfl, rfl, H⟩
            exact ax_iret dX12_law_96 rfl rfl rfl ⟨_, _, rfl, rfl, H⟩
    · have H := H.2 hc35
      refine ax_iconst (pc' := 39) (v := (0 : Int32)) dX12_law_38 (by decide) rfl ?_
      exact ax_iret dX12_law_39 rfl rfl rfl ⟨_, _, rfl, rfl, H⟩
  · have H := H.2 hc15
    refine ax_iload_n (pc' := 19) dX12_law_18 rfl rfl ?_
    refine ax_sipush (pc' := 22) (v := (150 : Int32)) dX12_law_19 (by decide) rfl ?_
    refine ax_icmp_le (pc' := 25) (tgt := 29) dX12_law_22 (by decide) rfl (fun hc22 => ?_) (fun hc22 => ?_)
    · have H := H.1 hc22
      refine ax_iconst (pc' := 30) (v := (0 : Int32)) dX12_law_29 (by decide) rfl ?_
      refine ax_iconst (pc' := 31) (v := (1 : Int32)) dX12_law_30 (by decide) rfl ?_
      refine ax_iconst (pc' := 32) (v := (1 : Int32)) dX12_law_31 (by decide) rfl ?_
      refine ay_V3 (pc' := 35) (ce' := 0) (sl' := 0) (mc2 := 0) (ms2 := 0) (I2 := i_X12_bad) dX12_law_32 ml_X12_183 sh_69 (by decide) rfl rfl rfl rfl rfl rfl rfl rfl rfl (ac_M.imp (o_X12_bad _ (0 : Int32) (1 : Int32) (1 : Int32) H) ?_)
      rintro _ _ ⟨r32, s32, rfl, rfl, H⟩
      refine ax_if_eq (pc' := 38) (tgt := 40) dX12_law_35 (by decide) rfl (fun hc35 => ?_) (fun hc35 => ?_)
      · have H := H.1 hc35
        refine ax_aload_n (pc' := 41) dX12_law_40 rfl rfl ?_
        refine ax_iload_n (pc' := 42) dX12_law_41 rfl rfl ?_
        refine ay_V1 (pc' := 45) (ce' := 0) (sl' := 0) (mc2 := 0) (ms2 := 0) (I2 := i_X12_starts) dX12_law_42 ml_X12_187 sh_69 (by decide) rfl rfl rfl rfl rfl rfl rfl rfl rfl (ac_M.imp (o_X12_starts _ p1 H) ?_)
        rintro _ _ ⟨s42, rfl, rfl, H⟩
        refine ax_aload_n (pc' := 46) dX12_law_45 rfl rfl ?_
        refine ax_iconst (pc' := 47) (v := (0 : Int32)) dX12_law_46 (by decide) rfl ?_
        refine ax_putI (pc' := 50) dX12_law_47 fp_X12_219 sh_69 rfl rfl rfl ?_
        refine ax_aload_n (pc' := 51) dX12_law_50 rfl rfl ?_
        refine ay_V0 (pc' := 54) (ce' := 0) (sl' := 0) (mc2 := 0) (ms2 := 0) (I2 := i_X12_sum) dX12_law_51 ml_X12_241 sh_69 (by decide) rfl rfl rfl rfl rfl rfl rfl rfl rfl (ac_M.imp (to_X12_sum _  H) ?_)
        rintro _ _ ⟨s51, rfl, rfl, H⟩
        refine ax_aload_n (pc' := 55) dX12_law_54 rfl rfl ?_
        refine ay_V0 (pc' := 58) (ce' := 0) (sl' := 0) (mc2 := 0) (ms2 := 0) (I2 := i_X12_blanks) dX12_law_55 ml_X12_126 sh_69 (by decide) rfl rfl rfl rfl rfl rfl rfl rfl rfl (ac_M.imp (o_X12_blanks _  H) ?_)
        rintro _ _ ⟨s55, rfl, rfl, H⟩
        refine ax_aload_n (pc' := 59) dX12_law_58 rfl rfl ?_
        refine ax_getI (pc' := 62) dX12_law_59 fl_X12_120 sh_69 rfl rfl rfl ?_
        refine ax_if_ne (pc' := 65) (tgt := 85) dX12_law_62 (by decide) rfl (fun hc62 => ?_) (fun hc62 => ?_)
        · have H := H.1 hc62
          refine ax_aload_n (pc' := 86) dX12_law_85 rfl rfl ?_
          refine ax_getI (pc' := 89) dX12_law_86 fl_X12_120 sh_69 rfl rfl rfl ?_
          refine ax_if_eq (pc' := 92) (tgt := 97) dX12_law_89 (by decide) rfl (fun hc89 => ?_) (fun hc89 => ?_)
          · have H := H.1 hc89
            refine ax_aload_n (pc' := 98) dX12_law_97 rfl rfl ?_
            refine ax_iconst (pc' := 99) (v := (-1 : Int32)) dX12_law_98 (by decide) rfl ?_
            refine ax_putI (pc' := 102) dX12_law_99 fp_X12_9 sh_69 rfl rfl rfl ?_
            refine ax_aload_n (pc' := 103) dX12_law_102 rfl rfl ?_
            refine ax_aload_n (pc' := 104) dX12_law_103 rfl rfl ?_
            refine ax_getI (pc' := 107) dX12_law_104 fl_X12_219 sh_69 rfl rfl rfl ?_
            refine ax_putI (pc' := 110) dX12_law_107 fp_X12_204 sh_69 rfl rfl rfl ?_
            refine ax_aload_n (pc' := 111) dX12_law_110 rfl rfl ?_
            refine ax_getR (pc' := 114) dX12_law_111 fl_X12_49 sh_69 rfl rfl rfl ?_
            refine ax_aload_n (pc' := 115) dX12_law_114 rfl rfl ?_
            refine ax_getR (pc' := 118) dX12_law_115 fl_X12_46 sh_69 rfl rfl rfl ?_
            refine ax_aload_n (pc' := 119) dX12_law_118 rfl rfl ?_
            refine ax_getI (pc' := 122) dX12_law_119 fl_X12_204 sh_69 rfl rfl rfl ?_
            refine ay_S3 (pc' := 125) (ce' := 0) (sl' := 0) (mc2 := 0) (ms2 := 0) (I2 := i_X12_lays) dX12_law_122 ml_X12_196 rfl rfl rfl rfl rfl rfl rfl rfl (ac_M.imp (o_X12_lays _ 298 160 299 2 137 160 138 ((ac_u (ac_u s55 69 3 (-1 : Int32)) 69 19 ((ac_u s55 69 3 (-1 : Int32)) 69 20)) 69 19) sh_298 rfl sh_r_299 sh_n_299 sh_137 rfl sh_r_138 sh_n_138 H) ?_)
            rintro _ _ ⟨s122, rfl, rfl, H⟩
            refine ax_iconst (pc' := 126) (v := (1 : Int32)) dX12_law_125 (by decide) rfl ?_
            exact ax_iret dX12_law_126 rfl rfl rfl ⟨_, _, rfl, rfl, H⟩
          · have H := H.2 hc89
            refine ax_aload_n (pc' := 93) dX12_law_92 rfl rfl ?_
            refine ay_V0 (pc' := 96) (ce' := 0) (sl' := 0) (mc2 := 0) (ms2 := 0) (I2 := i_X12_ends) dX12_law_93 ml_X12_193 sh_69 (by decide) rfl rfl rfl rfl rfl rfl rfl rfl rfl (ac_M.imp (o_X12_ends _  H) ?_)
            rintro _ _ ⟨r93, s93, rfl, rfl, H⟩
            exact ax_iret dX12_law_96 rfl rfl rfl ⟨_, _, rfl, rfl, H⟩
        · have H := H.2 hc62
          refine ax_aload_n (pc' := 66) dX12_law_65 rfl rfl ?_
          refine ax_getI (pc' := 69) dX12_law_66 fl_X12_113 sh_69 rfl rfl rfl ?_
          refine ax_aload_n (pc' := 70) dX12_law_69 rfl rfl ?_
          refine ax_getI (pc' := 73) dX12_law_70 fl_X12_110 sh_69 rfl rfl rfl ?_
          refine ax_icmp_ge (pc' := 76) (tgt := 85) dX12_law_73 (by decide) rfl (fun hc73 => ?_) (fun hc73 => ?_)
          · have H := H.1 hc73
            refine ax_aload_n (pc' := 86) dX12_law_85 rfl rfl ?_
            refine ax_getI (pc' := 89) dX12_law_86 fl_X12_120 sh_69 rfl rfl rfl ?_
            refine ax_if_eq (pc' := 92) (tgt := 97) dX12_law_89 (by decide) rfl (fun hc89 => ?_) (fun hc89 => ?_)
            · have H := H.1 hc89
              refine ax_aload_n (pc' := 98) dX12_law_97 rfl rfl ?_
              refine ax_iconst (pc' := 99) (v := (-1 : Int32)) dX12_law_98 (by decide) rfl ?_
              refine ax_putI (pc' := 102) dX12_law_99 fp_X12_9 sh_69 rfl rfl rfl ?_
              refine ax_aload_n (pc' := 103) dX12_law_102 rfl rfl ?_
              refine ax_aload_n (pc' := 104) dX12_law_103 rfl rfl ?_
              refine ax_getI (pc' := 107) dX12_law_104 fl_X12_219 sh_69 rfl rfl rfl ?_
              refine ax_putI (pc' := 110) dX12_law_107 fp_X12_204 sh_69 rfl rfl rfl ?_
              refine ax_aload_n (pc' := 111) dX12_law_110 rfl rfl ?_
              refine ax_getR (pc' := 114) dX12_law_111 fl_X12_49 sh_69 rfl rfl rfl ?_
              refine ax_aload_n (pc' := 115) dX12_law_114 rfl rfl ?_
              refine ax_getR (pc' := 118) dX12_law_115 fl_X12_46 sh_69 rfl rfl rfl ?_
              refine ax_aload_n (pc' := 119) dX12_law_118 rfl rfl ?_
              refine ax_getI (pc' := 122) dX12_law_119 fl_X12_204 sh_69 rfl rfl rfl ?_
              refine ay_S3 (pc' := 125) (ce' := 0) (sl' := 0) (mc2 := 0) (ms2 := 0) (I2 := i_X12_lays) dX12_law_122 ml_X12_196 rfl rfl rfl rfl rfl rfl rfl rfl (ac_M.imp (o_X12_lays _ 298 160 299 2 137 160 138 ((ac_u (ac_u s55 69 3 (-1 : Int32)) 69 19 ((ac_u s55 69 3 (-1 : Int32)) 69 20)) 69 19) sh_298 rfl sh_r_299 sh_n_299 sh_137 rfl sh_r_138 sh_n_138 H) ?_)
              rintro _ _ ⟨s122, rfl, rfl, H⟩
              refine ax_iconst (pc' := 126) (v := (1 : Int32)) dX12_law_125 (by decide) rfl ?_
              exact ax_iret dX12_law_126 rfl rfl rfl ⟨_, _, rfl, rfl, H⟩
            · have H := H.2 hc89
              refine ax_aload_n (pc' := 93) dX12_law_92 rfl rfl ?_
              refine ay_V0 (pc' := 96) (ce' := 0) (sl' := 0) (mc2 := 0) (ms2 := 0) (I2 := i_X12_ends) dX12_law_93 ml_X12_193 sh_69 (by decide) rfl rfl rfl rfl rfl rfl rfl rfl rfl (ac_M.imp (o_X12_ends _  H) ?_)
              rintro _ _ ⟨r93, s93, rfl, rfl, H⟩
              exact ax_iret dX12_law_96 rfl rfl rfl ⟨_, _, rfl, rfl, H⟩
          · have H := H.2 hc73
            refine ax_aload_n (pc' := 77) dX12_law_76 rfl rfl ?_
            refine ax_iconst (pc' := 78) (v := (1 : Int32)) dX12_law_77 (by decide) rfl ?_
            refine ax_aload_n (pc' := 79) dX12_law_78 rfl rfl ?_
            refine ax_getI (pc' := 82) dX12_law_79 fl_X12_113 sh_69 rfl rfl rfl ?_
            refine ay_V2 (pc' := 85) (ce' := 0) (sl' := 0) (mc2 := 0) (ms2 := 0) (I2 := i_X12_wrong) dX12_law_82 ml_X12_133 sh_69 (by decide) rfl rfl rfl rfl rfl rfl rfl rfl rfl (ac_M.imp (o_X12_wrong _ (1 : Int32) (s55 69 4) H) ?_)
            rintro _ _ ⟨s82, rfl, rfl, H⟩
            refine ax_aload_n (pc' := 86) dX12_law_85 rfl rfl ?_
            refine ax_getI (pc' := 89) dX12_law_86 fl_X12_120 sh_69 rfl rfl rfl ?_
            refine ax_if_eq (pc' := 92) (tgt := 97) dX12_law_89 (by decide) rfl (fun hc89 => ?_) (fun hc89 => ?_)
            · have H := H.1 hc89
              refine ax_aload_n (pc' := 98) dX12_law_97 rfl rfl ?_
              refine ax_iconst (pc' := 99) (v := (-1 : Int32)) dX12_law_98 (by decide) rfl ?_
              refine ax_putI (pc' := 102) dX12_law_99 fp_X12_9 sh_69 rfl rfl rfl ?_
              refine ax_aload_n (pc' := 103) dX12_law_102 rfl rfl ?_
              refine ax_aload_n (pc' := 104) dX12_law_103 rfl rfl ?_
              refine ax_getI (pc' := 107) dX12_law_104 fl_X12_219 sh_69 rfl rfl rfl ?_
              refine ax_putI (pc' := 110) dX12_law_107 fp_X12_204 sh_69 rfl rfl rfl ?_
              refine ax_aload_n (pc' := 111) dX12_law_110 rfl rfl ?_
              refine ax_getR (pc' := 114) dX12_law_111 fl_X12_49 sh_69 rfl rfl rfl ?_
              refine ax_aload_n (pc' := 115) dX12_law_114 rfl rfl ?_
              refine ax_getR (pc' := 118) dX12_law_115 fl_X12_46 sh_69 rfl rfl rfl ?_
              refine ax_aload_n (pc' := 119) dX12_law_118 rfl rfl ?_
              refine ax_getI (pc' := 122) dX12_law_119 fl_X12_204 sh_69 rfl rfl rfl ?_
              refine ay_S3 (pc' := 125) (ce' := 0) (sl' := 0) (mc2 := 0) (ms2 := 0) (I2 := i_X12_lays) dX12_law_122 ml_X12_196 rfl rfl rfl rfl rfl rfl rfl rfl (ac_M.imp (o_X12_lays _ 298 160 299 2 137 160 138 ((ac_u (ac_u s82 69 3 (-1 : Int32)) 69 19 ((ac_u s82 69 3 (-1 : Int32)) 69 20)) 69 19) sh_298 rfl sh_r_299 sh_n_299 sh_137 rfl sh_r_138 sh_n_138 H) ?_)
              rintro _ _ ⟨s122, rfl, rfl, H⟩
              refine ax_iconst (pc' := 126) (v := (1 : Int32)) dX12_law_125 (by decide) rfl ?_
              exact ax_iret dX12_law_126 rfl rfl rfl ⟨_, _, rfl, rfl, H⟩
            · have H := H.2 hc89
              refine ax_aload_n (pc' := 93) dX12_law_92 rfl rfl ?_
              refine ay_V0 (pc' := 96) (ce' := 0) (sl' := 0) (mc2 := 0) (ms2 := 0) (I2 := i_X12_ends) dX12_law_93 ml_X12_193 sh_69 (by decide) rfl rfl rfl rfl rfl rfl rfl rfl rfl (ac_M.imp (o_X12_ends _  H) ?_)
              rintro _ _ ⟨r93, s93, rfl, rfl, H⟩
              exact ax_iret dX12_law_96 rfl rfl rfl ⟨_, _, rfl, rfl, H⟩
      · have H := H.2 hc35
        refine ax_iconst (pc' := 39) (v := (0 : Int32)) dX12_law_38 (by decide) rfl ?_
        exact ax_iret dX12_law_39 rfl rfl rfl ⟨_, _, rfl, rfl, H⟩
    · have H := H.2 hc22
      refine ax_iconst (pc' := 26) (v := (1 : Int32)) dX12_law_25 (by decide) rfl ?_
      refine ax_goto (tgt := 30) dX12_law_26 (by decide) ?_
      refine ax_iconst (pc' := 31) (v := (1 : Int32)) dX12_law_30 (by decide) rfl ?_
      refine ax_iconst (pc' := 32) (v := (1 : Int32)) dX12_law_31 (by decide) rfl ?_
      refine ay_V3 (pc' := 35) (ce' := 0) (sl' := 0) (mc2 := 0) (ms2 := 0) (I2 := i_X12_bad) dX12_law_32 ml_X12_183 sh_69 (by decide) rfl rfl rfl rfl rfl rfl rfl rfl rfl (ac_M.imp (o_X12_bad _ (1 : Int32) (1 : Int32) (1 : Int32) H) ?_)
      rintro _ _ ⟨r32, s32, rfl, rfl, H⟩
      refine ax_if_eq (pc' := 38) (tgt := 40) dX12_law_35 (by decide) rfl (fun hc35 => ?_) (fun hc35 => ?_)
      · have H := H.1 hc35
        refine ax_aload_n (pc' := 41) dX12_law_40 rfl rfl ?_
        refine ax_iload_n (pc' := 42) dX12_law_41 rfl rfl ?_
        refine ay_V1 (pc' := 45) (ce' := 0) (sl' := 0) (mc2 := 0) (ms2 := 0) (I2 := i_X12_starts) dX12_law_42 ml_X12_187 sh_69 (by decide) rfl rfl rfl rfl rfl rfl rfl rfl rfl (ac_M.imp (o_X12_starts _ p1 H) ?_)
        rintro _ _ ⟨s42, rfl, rfl, H⟩
        refine ax_aload_n (pc' := 46) dX12_law_45 rfl rfl ?_
        refine ax_iconst (pc' := 47) (v := (0 : Int32)) dX12_law_46 (by decide) rfl ?_
        refine ax_putI (pc' := 50) dX12_law_47 fp_X12_219 sh_69 rfl rfl rfl ?_
        refine ax_aload_n (pc' := 51) dX12_law_50 rfl rfl ?_
        refine ay_V0 (pc' := 54) (ce' := 0) (sl' := 0) (mc2 := 0) (ms2 := 0) (I2 := i_X12_sum) dX12_law_51 ml_X12_241 sh_69 (by decide) rfl rfl rfl rfl rfl rfl rfl rfl rfl (ac_M.imp (to_X12_sum _  H) ?_)
        rintro _ _ ⟨s51, rfl, rfl, H⟩
        refine ax_aload_n (pc' := 55) dX12_law_54 rfl rfl ?_
        refine ay_V0 (pc' := 58) (ce' := 0) (sl' := 0) (mc2 := 0) (ms2 := 0) (I2 := i_X12_blanks) dX12_law_55 ml_X12_126 sh_69 (by decide) rfl rfl rfl rfl rfl rfl rfl rfl rfl (ac_M.imp (o_X12_blanks _  H) ?_)
        rintro _ _ ⟨s55, rfl, rfl, H⟩
        refine ax_aload_n (pc' := 59) dX12_law_58 rfl rfl ?_
        refine ax_getI (pc' := 62) dX12_law_59 fl_X12_120 sh_69 rfl rfl rfl ?_
        refine ax_if_ne (pc' := 65) (tgt := 85) dX12_law_62 (by decide) rfl (fun hc62 => ?_) (fun hc62 => ?_)
        · have H := H.1 hc62
          refine ax_aload_n (pc' := 86) dX12_law_85 rfl rfl ?_
          refine ax_getI (pc' := 89) dX12_law_86 fl_X12_120 sh_69 rfl rfl rfl ?_
          refine ax_if_eq (pc' := 92) (tgt := 97) dX12_law_89 (by decide) rfl (fun hc89 => ?_) (fun hc89 => ?_)
          · have H := H.1 hc89
            refine ax_aload_n (pc' := 98) dX12_law_97 rfl rfl ?_
            refine ax_iconst (pc' := 99) (v := (-1 : Int32)) dX12_law_98 (by decide) rfl ?_
            refine ax_putI (pc' := 102) dX12_law_99 fp_X12_9 sh_69 rfl rfl rfl ?_
            refine ax_aload_n (pc' := 103) dX12_law_102 rfl rfl ?_
            refine ax_aload_n (pc' := 104) dX12_law_103 rfl rfl ?_
            refine ax_getI (pc' := 107) dX12_law_104 fl_X12_219 sh_69 rfl rfl rfl ?_
            refine ax_putI (pc' := 110) dX12_law_107 fp_X12_204 sh_69 rfl rfl rfl ?_
            refine ax_aload_n (pc' := 111) dX12_law_110 rfl rfl ?_
            refine ax_getR (pc' := 114) dX12_law_111 fl_X12_49 sh_69 rfl rfl rfl ?_
            refine ax_aload_n (pc' := 115) dX12_law_114 rfl rfl ?_
            refine ax_getR (pc' := 118) dX12_law_115 fl_X12_46 sh_69 rfl rfl rfl ?_
            refine ax_aload_n (pc' := 119) dX12_law_118 rfl rfl ?_
            refine ax_getI (pc' := 122) dX12_law_119 fl_X12_204 sh_69 rfl rfl rfl ?_
            refine ay_S3 (pc' := 125) (ce' := 0) (sl' := 0) (mc2 := 0) (ms2 := 0) (I2 := i_X12_lays) dX12_law_122 ml_X12_196 rfl rfl rfl rfl rfl rfl rfl rfl (ac_M.imp (o_X12_lays _ 298 160 299 2 137 160 138 ((ac_u (ac_u s55 69 3 (-1 : Int32)) 69 19 ((ac_u s55 69 3 (-1 : Int32)) 69 20)) 69 19) sh_298 rfl sh_r_299 sh_n_299 sh_137 rfl sh_r_138 sh_n_138 H) ?_)
            rintro _ _ ⟨s122, rfl, rfl, H⟩
            refine ax_iconst (pc' := 126) (v := (1 : Int32)) dX12_law_125 (by decide) rfl ?_
            exact ax_iret dX12_law_126 rfl rfl rfl ⟨_, _, rfl, rfl, H⟩
          · have H := H.2 hc89
            refine ax_aload_n (pc' := 93) dX12_law_92 rfl rfl ?_
            refine ay_V0 (pc' := 96) (ce' := 0) (sl' := 0) (mc2 := 0) (ms2 := 0) (I2 := i_X12_ends) dX12_law_93 ml_X12_193 sh_69 (by decide) rfl rfl rfl rfl rfl rfl rfl rfl rfl (ac_M.imp (o_X12_ends _  H) ?_)
            rintro _ _ ⟨r93, s93, rfl, rfl, H⟩
            exact ax_iret dX12_law_96 rfl rfl rfl ⟨_, _, rfl, rfl, H⟩
        · have H := H.2 hc62
          refine ax_aload_n (pc' := 66) dX12_law_65 rfl rfl ?_
          refine ax_getI (pc' := 69) dX12_law_66 fl_X12_113 sh_69 rfl rfl rfl ?_
          refine ax_aload_n (pc' := 70) dX12_law_69 rfl rfl ?_
          refine ax_getI (pc' := 73) dX12_law_70 fl_X12_110 sh_69 rfl rfl rfl ?_
          refine ax_icmp_ge (pc' := 76) (tgt := 85) dX12_law_73 (by decide) rfl (fun hc73 => ?_) (fun hc73 => ?_)
          · have H := H.1 hc73
            refine ax_aload_n (pc' := 86) dX12_law_85 rfl rfl ?_
            refine ax_getI (pc' := 89) dX12_law_86 fl_X12_120 sh_69 rfl rfl rfl ?_
            refine ax_if_eq (pc' := 92) (tgt := 97) dX12_law_89 (by decide) rfl (fun hc89 => ?_) (fun hc89 => ?_)
            · have H := H.1 hc89
              refine ax_aload_n (pc' := 98) dX12_law_97 rfl rfl ?_
              refine ax_iconst (pc' := 99) (v := (-1 : Int32)) dX12_law_98 (by decide) rfl ?_
              refine ax_putI (pc' := 102) dX12_law_99 fp_X12_9 sh_69 rfl rfl rfl ?_
              refine ax_aload_n (pc' := 103) dX12_law_102 rfl rfl ?_
              refine ax_aload_n (pc' := 104) dX12_law_103 rfl rfl ?_
              refine ax_getI (pc' := 107) dX12_law_104 fl_X12_219 sh_69 rfl rfl rfl ?_
              refine ax_putI (pc' := 110) dX12_law_107 fp_X12_204 sh_69 rfl rfl rfl ?_
              refine ax_aload_n (pc' := 111) dX12_law_110 rfl rfl ?_
              refine ax_getR (pc' := 114) dX12_law_111 fl_X12_49 sh_69 rfl rfl rfl ?_
              refine ax_aload_n (pc' := 115) dX12_law_114 rfl rfl ?_
              refine ax_getR (pc' := 118) dX12_law_115 fl_X12_46 sh_69 rfl rfl rfl ?_
              refine ax_aload_n (pc' := 119) dX12_law_118 rfl rfl ?_
              refine ax_getI (pc' := 122) dX12_law_119 fl_X12_204 sh_69 rfl rfl rfl ?_
              refine ay_S3 (pc' := 125) (ce' := 0) (sl' := 0) (mc2 := 0) (ms2 := 0) (I2 := i_X12_lays) dX12_law_122 ml_X12_196 rfl rfl rfl rfl rfl rfl rfl rfl (ac_M.imp (o_X12_lays _ 298 160 299 2 137 160 138 ((ac_u (ac_u s55 69 3 (-1 : Int32)) 69 19 ((ac_u s55 69 3 (-1 : Int32)) 69 20)) 69 19) sh_298 rfl sh_r_299 sh_n_299 sh_137 rfl sh_r_138 sh_n_138 H) ?_)
              rintro _ _ ⟨s122, rfl, rfl, H⟩
              refine ax_iconst (pc' := 126) (v := (1 : Int32)) dX12_law_125 (by decide) rfl ?_
              exact ax_iret dX12_law_126 rfl rfl rfl ⟨_, _, rfl, rfl, H⟩
            · have H := H.2 hc89
              refine ax_aload_n (pc' := 93) dX12_law_92 rfl rfl ?_
              refine ay_V0 (pc' := 96) (ce' := 0) (sl' := 0) (mc2 := 0) (ms2 := 0) (I2 := i_X12_ends) dX12_law_93 ml_X12_193 sh_69 (by decide) rfl rfl rfl rfl rfl rfl rfl rfl rfl (ac_M.imp (o_X12_ends _  H) ?_)
              rintro _ _ ⟨r93, s93, rfl, rfl, H⟩
              exact ax_iret dX12_law_96 rfl rfl rfl ⟨_, _, rfl, rfl, H⟩
          · have H := H.2 hc73
            refine ax_aload_n (pc' := 77) dX12_law_76 rfl rfl ?_
            refine ax_iconst (pc' := 78) (v := (1 : Int32)) dX12_law_77 (by decide) rfl ?_
            refine ax_aload_n (pc' := 79) dX12_law_78 rfl rfl ?_
            refine ax_getI (pc' := 82) dX12_law_79 fl_X12_113 sh_69 rfl rfl rfl ?_
            refine ay_V2 (pc' := 85) (ce' := 0) (sl' := 0) (mc2 := 0) (ms2 := 0) (I2 := i_X12_wrong) dX12_law_82 ml_X12_133 sh_69 (by decide) rfl rfl rfl rfl rfl rfl rfl rfl rfl (ac_M.imp (o_X12_wrong _ (1 : Int32) (s55 69 4) H) ?_)
            rintro _ _ ⟨s82, rfl, rfl, H⟩
            refine ax_aload_n (pc' := 86) dX12_law_85 rfl rfl ?_
            refine ax_getI (pc' := 89) dX12_law_86 fl_X12_120 sh_69 rfl rfl rfl ?_
            refine ax_if_eq (pc' := 92) (tgt := 97) dX12_law_89 (by decide) rfl (fun hc89 => ?_) (fun hc89 => ?_)
            · have H := H.1 hc89
              refine ax_aload_n (pc' := 98) dX12_law_97 rfl rfl ?_
              refine ax_iconst (pc' := 99) (v := (-1 : Int32)) dX12_law_98 (by decide) rfl ?_
              refine ax_putI (pc' := 102) dX12_law_99 fp_X12_9 sh_69 rfl rfl rfl ?_
              refine ax_aload_n (pc' := 103) dX12_law_102 rfl rfl ?_
              refine ax_aload_n (pc' := 104) dX12_law_103 rfl rfl ?_
              refine ax_getI (pc' := 107) dX12_law_104 fl_X12_219 sh_69 rfl rfl rfl ?_
              refine ax_putI (pc' := 110) dX12_law_107 fp_X12_204 sh_69 rfl rfl rfl ?_
              refine ax_aload_n (pc' := 111) dX12_law_110 rfl rfl ?_
              refine ax_getR (pc' := 114) dX12_law_111 fl_X12_49 sh_69 rfl rfl rfl ?_
              refine ax_aload_n (pc' := 115) dX12_law_114 rfl rfl ?_
              refine ax_getR (pc' := 118) dX12_law_115 fl_X12_46 sh_69 rfl rfl rfl ?_
              refine ax_aload_n (pc' := 119) dX12_law_118 rfl rfl ?_
              refine ax_getI (pc' := 122) dX12_law_119 fl_X12_204 sh_69 rfl rfl rfl ?_
              refine ay_S3 (pc' := 125) (ce' := 0) (sl' := 0) (mc2 := 0) (ms2 := 0) (I2 := i_X12_lays) dX12_law_122 ml_X12_196 rfl rfl rfl rfl rfl rfl rfl rfl (ac_M.imp (o_X12_lays _ 298 160 299 2 137 160 138 ((ac_u (ac_u s82 69 3 (-1 : Int32)) 69 19 ((ac_u s82 69 3 (-1 : Int32)) 69 20)) 69 19) sh_298 rfl sh_r_299 sh_n_299 sh_137 rfl sh_r_138 sh_n_138 H) ?_)
              rintro _ _ ⟨s122, rfl, rfl, H⟩
              refine ax_iconst (pc' := 126) (v := (1 : Int32)) dX12_law_125 (by decide) rfl ?_
              exact ax_iret dX12_law_126 rfl rfl rfl ⟨_, _, rfl, rfl, H⟩
            · have H := H.2 hc89
              refine ax_aload_n (pc' := 93) dX12_law_92 rfl rfl ?_
              refine ay_V0 (pc' := 96) (ce' := 0) (sl' := 0) (mc2 := 0) (ms2 := 0) (I2 := i_X12_ends) dX12_law_93 ml_X12_193 sh_69 (by decide) rfl rfl rfl rfl rfl rfl rfl rfl rfl (ac_M.imp (o_X12_ends _  H) ?_)
              rintro _ _ ⟨r93, s93, rfl, rfl, H⟩
              exact ax_iret dX12_law_96 rfl rfl rfl ⟨_, _, rfl, rfl, H⟩
      · have H := H.2 hc35
        refine ax_iconst (pc' := 39) (v := (0 : Int32)) dX12_law_38 (by decide) rfl ?_
        exact ax_iret dX12_law_39 rfl rfl rfl ⟨_, _, rfl, rfl, H⟩
