theorem qn_75 : ∀ j, j < 6 → Nat.blt (75 + j) 585 = true := fun j hj => Nat.ble_eq.mpr (by omega)
theorem qn_82 : ∀ j, j < 6 → Nat.blt (82 + j) 585 = true := fun j hj => Nat.ble_eq.mpr (by omega)
theorem qn_89 : ∀ j, j < 12 → Nat.blt (89 + j) 585 = true := fun j hj => Nat.ble_eq.mpr (by omega)
theorem qn_102 : ∀ j, j < 13 → Nat.blt (102 + j) 585 = true := fun j hj => Nat.ble_eq.mpr (by omega)
theorem qn_116 : ∀ j, j < 10 → Nat.blt (116 + j) 585 = true := fun j hj => Nat.ble_eq.mpr (by omega)
theorem qn_127 : ∀ j, j < 10 → Nat.blt (127 + j) 585 = true := fun j hj => Nat.ble_eq.mpr (by omega)
theorem ql_X12_tellsNothing_2 {g : ac_G} {τ : Nat → Nat → Int64} (d : Nat)  {Q : ac_m → Prop}    {x1 : Int32} {s : ac_m} (H : l_X12_tellsNothing_2  Q    x1 s) : ac_X g i_X12_tellsNothing d 0 0 (lgV true 585 SH τ Q) 0 0 2 [some (.ref 69), some (.int x1)] [] (true, 585, SH, s, τ) := by
  refine H (fun x1 s => ac_X g i_X12_tellsNothing d 0 0 (lgV true 585 SH τ Q) 0 0 2 [some (.ref 69), some (.int x1)] [] (true, 585, SH, s, τ)) ?_
  intro x1 s H
  refine ax_iload_n (pc' := 3) dX12_tellsNothing_2 rfl rfl ?_
  refine ax_iconst (pc' := 4) (v := (3 : Int32)) dX12_tellsNothing_3 (by decide) rfl ?_
  refine ax_icmp_ge (pc' := 7) (tgt := 20) dX12_tellsNothing_4 (by decide) rfl (fun hc4 => ?_) (fun hc4 => ?_)
  · have H := H.1 hc4
    exact ax_vret dX12_tellsNothing_20 rfl rfl rfl ⟨_, rfl, rfl, H⟩
  · have H := H.2 hc4
    refine ax_aload_n (pc' := 8) dX12_tellsNothing_7 rfl rfl ?_
    refine ax_getR (pc' := 11) dX12_tellsNothing_8 fl_X12_20 sh_69 rfl rfl rfl ?_
    refine ax_iload_n (pc' := 12) dX12_tellsNothing_11 rfl rfl ?_
    refine ax_iconst (pc' := 13) (v := (0 : Int32)) dX12_tellsNothing_12 (by decide) rfl ?_
    obtain ⟨hj13, H⟩ := H
    refine ax_iast (pc' := 14) dX12_tellsNothing_13 sh_72 hj13 rfl rfl ?_
    refine ax_iinc (pc' := 17) (v := (x1 + (1 : Int32))) dX12_tellsNothing_14 rfl rfl rfl rfl rfl ?_
    refine ax_goto (tgt := 2) dX12_tellsNothing_17 (by decide) ?_
    exact H
theorem q_X12_tellsNothing {g : ac_G} {τ : Nat → Nat → Int64} (d : Nat)  {Q : ac_m → Prop} {s : ac_m} (H : w_X12_tellsNothing  Q s) : ac_M g i_X12_tellsNothing d 0 0 [.ref 69] (true, 585, SH, s, τ) (lgV true 585 SH τ Q) := by
  refine ac_ofX (by decide +kernel) rfl rfl rfl ?_
  refine ax_iconst (pc' := 1) (v := (0 : Int32)) dX12_tellsNothing_0 (by decide) rfl ?_
  refine ax_istore_n (pc' := 2) dX12_tellsNothing_1 rfl rfl rfl ?_
  refine ql_X12_tellsNothing_2 d       H
theorem ql_X12_lays_10 {g : ac_G} {τ : Nat → Nat → Int64} (d : Nat) (r1 : Nat) (n1 : Nat) (b1 : Nat) (l0 : Nat) (r2 : Nat) (n2 : Nat) (b2 : Nat) (p3 : Int32) (hr1 : SH r1 = .inl (3, n1, b1)) (hn1 : Nat.blt r1 585 = true) (hv1 : ∀ j, j < n1 → SH (b1 + j) = .inl (0, l0, 0)) (hu1 : ∀ j, j < n1 → Nat.blt (b1 + j) 585 = true) (hr2 : SH r2 = .inl (3, n2, b2)) (hn2 : Nat.blt r2 585 = true) (hv2 : ∀ j, j < n2 → SH (b2 + j) = .inl (0, l0, 0)) (hu2 : ∀ j, j < n2 → Nat.blt (b2 + j) 585 = true) {Q : ac_m → Prop} {K37 : ac_m → Prop} (f2 : Int32) (f3 : Int32)  {x4 : Int32} {s : ac_m} (hK37 : ∀  (s : ac_m), K37  s → ac_X g i_X12_lays d 0 0 (lgV true 585 SH τ Q) 0 0 37 [some (.ref r1), some (.ref r2), some (.int f2), some (.int f3), none] [] (true, 585, SH, s, τ)) (H : l_X12_lays_10 r1 n1 b1 l0 r2 n2 b2 p3 Q K37 f2 f3  x4 s) : ac_X g i_X12_lays d 0 0 (lgV true 585 SH τ Q) 0 0 10 [some (.ref r1), some (.ref r2), some (.int f2), some (.int f3), some (.int x4)] [] (true, 585, SH, s, τ) := by
  refine H (fun x4 s => ac_X g i_X12_lays d 0 0 (lgV true 585 SH τ Q) 0 0 10 [some (.ref r1), some (.ref r2), some (.int f2), some (.int f3), some (.int x4)] [] (true, 585, SH, s, τ)) ?_
  intro x4 s H
  refine ax_iload (pc' := 12) dX12_lays_10 rfl rfl ?_
  refine ax_aload_n (pc' := 13) dX12_lays_12 rfl rfl ?_
  refine ax_iload_n (pc' := 14) dX12_lays_13 rfl rfl ?_
  obtain ⟨hj14, H⟩ := H
  refine ax_aald (pc' := 15) dX12_lays_14 hr2 hj14 hn2 rfl ?_
  refine ax_alen (pc' := 16) (v := (Int32.ofNat l0)) dX12_lays_15 (hv2 _ (ac_lt hj14)) rfl rfl (hu2 _ (ac_lt hj14)) rfl ?_
  refine ax_icmp_ge (pc' := 19) (tgt := 37) dX12_lays_16 (by decide) rfl (fun hc16 => ?_) (fun hc16 => ?_)
  · have H := H.1 hc16
    refine ax_drop 4 rfl ?_
    exact hK37 _ H
  · have H := H.2 hc16
    refine ax_aload_n (pc' := 20) dX12_lays_19 rfl rfl ?_
    refine ax_iload_n (pc' := 21) dX12_lays_20 rfl rfl ?_
    obtain ⟨hj21, H⟩ := H
    refine ax_aald (pc' := 22) dX12_lays_21 hr2 hj21 hn2 rfl ?_
    refine ax_iload (pc' := 24) dX12_lays_22 rfl rfl ?_
    refine ax_aload_n (pc' := 25) dX12_lays_24 rfl rfl ?_
    refine ax_iload_n (pc' := 26) dX12_lays_25 rfl rfl ?_
    obtain ⟨hj26, H⟩ := H
    refine ax_aald (pc' := 27) dX12_lays_26 hr1 hj26 hn1 rfl ?_
    refine ax_iload (pc' := 29) dX12_lays_27 rfl rfl ?_
    obtain ⟨hj29, H⟩ := H
    refine ax_iald (pc' := 30) dX12_lays_29 (hv1 _ (ac_lt hj26)) hj29 (hu1 _ (ac_lt hj26)) rfl ?_
    obtain ⟨hj30, H⟩ := H
    refine ax_iast (pc' := 31) dX12_lays_30 (hv2 _ (ac_lt hj21)) hj30 (hu2 _ (ac_lt hj21)) rfl ?_
    refine ax_iinc (pc' := 34) (v := (x4 + (1 : Int32))) dX12_lays_31 rfl rfl rfl rfl rfl ?_
    refine ax_goto (tgt := 10) dX12_lays_34 (by decide) ?_
    exact H
theorem ql_X12_lays_2 {g : ac_G} {τ : Nat → Nat → Int64} (d : Nat) (r1 : Nat) (n1 : Nat) (b1 : Nat) (l0 : Nat) (r2 : Nat) (n2 : Nat) (b2 : Nat) (p3 : Int32) (hr1 : SH r1 = .inl (3, n1, b1)) (hn1 : Nat.blt r1 585 = true) (hv1 : ∀ j, j < n1 → SH (b1 + j) = .inl (0, l0, 0)) (hu1 : ∀ j, j < n1 → Nat.blt (b1 + j) 585 = true) (hr2 : SH r2 = .inl (3, n2, b2)) (hn2 : Nat.blt r2 585 = true) (hv2 : ∀ j, j < n2 → SH (b2 + j) = .inl (0, l0, 0)) (hu2 : ∀ j, j < n2 → Nat.blt (b2 + j) 585 = true) {Q : ac_m → Prop}  (f2 : Int32)  {x3 : Int32} {s : ac_m} (H : l_X12_lays_2 r1 n1 b1 l0 r2 n2 b2 p3 Q  f2  x3 s) : ac_X g i_X12_lays d 0 0 (lgV true 585 SH τ Q) 0 0 2 [some (.ref r1), some (.ref r2), some (.int f2), some (.int x3), none] [] (true, 585, SH, s, τ) := by
  refine H (fun x3 s => ac_X g i_X12_lays d 0 0 (lgV true 585 SH τ Q) 0 0 2 [some (.ref r1), some (.ref r2), some (.int f2), some (.int x3), none] [] (true, 585, SH, s, τ)) ?_
  intro x3 s H
  refine ax_iload_n (pc' := 3) dX12_lays_2 rfl rfl ?_
  refine ax_iload_n (pc' := 4) dX12_lays_3 rfl rfl ?_
  refine ax_icmp_ge (pc' := 7) (tgt := 43) dX12_lays_4 (by decide) rfl (fun hc4 => ?_) (fun hc4 => ?_)
  · have H := H.1 hc4
    exact ax_vret dX12_lays_43 rfl rfl rfl ⟨_, rfl, rfl, H⟩
  · have H := H.2 hc4
    refine ax_iconst (pc' := 8) (v := (0 : Int32)) dX12_lays_7 (by decide) rfl ?_
    refine ax_istore (pc' := 10) dX12_lays_8 rfl rfl rfl ?_
    refine ql_X12_lays_10 d r1 n1 b1 l0 r2 n2 b2 p3 hr1 hn1 hv1 hu1 hr2 hn2 hv2 hu2 _ _   ?_ H
    · intro  sk10 H
      refine ax_iinc (pc' := 40) (v := (x3 + (1 : Int32))) dX12_lays_37 rfl rfl rfl rfl rfl ?_
      refine ax_goto (tgt := 2) dX12_lays_40 (by decide) ?_
      exact H
theorem q_X12_lays {g : ac_G} {τ : Nat → Nat → Int64} (d : Nat) (r1 : Nat) (n1 : Nat) (b1 : Nat) (l0 : Nat) (r2 : Nat) (n2 : Nat) (b2 : Nat) (p3 : Int32) (hr1 : SH r1 = .inl (3, n1, b1)) (hn1 : Nat.blt r1 585 = true) (hv1 : ∀ j, j < n1 → SH (b1 + j) = .inl (0, l0, 0)) (hu1 : ∀ j, j < n1 → Nat.blt (b1 + j) 585 = true) (hr2 : SH r2 = .inl (3, n2, b2)) (hn2 : Nat.blt r2 585 = true) (hv2 : ∀ j, j < n2 → SH (b2 + j) = .inl (0, l0, 0)) (hu2 : ∀ j, j < n2 → Nat.blt (b2 + j) 585 = true) {Q : ac_m → Prop} {s : ac_m} (H : w_X12_lays r1 n1 b1 l0 r2 n2 b2 p3 Q s) : ac_M g i_X12_lays d 0 0 [.ref r1, .ref r2, .int p3] (true, 585, SH, s, τ) (lgV true 585 SH τ Q) := by
  refine ac_ofX (by decide +kernel) rfl rfl rfl ?_
  refine ax_iconst (pc' := 1) (v := (0 : Int32)) dX12_lays_0 (by decide) rfl ?_
  refine ax_istore_n (pc' := 2) dX12_lays_1 rfl rfl rfl ?_
  refine ql_X12_lays_2 d r1 n1 b1 l0 r2 n2 b2 p3 hr1 hn1 hv1 hu1 hr2 hn2 hv2 hu2 _    H
theorem q_X12_comes {g : ac_G} {τ : Nat → Nat → Int64} (d : Nat) (r1 : Nat) (p2 : Int32) (hr1 : SH r1 = .inl (0, 83, 0)) (hn1 : Nat.blt r1 585 = true) {Q : ac_m → Prop} {s : ac_m} (H : w_X12_comes r1 p2 Q s) : ac_M g i_X12_comes d 0 0 [.ref 69, .ref r1, .int p2] (true, 585, SH, s, τ) (lgV true 585 SH τ Q) := by
  refine ac_ofX (by decide +kernel) rfl rfl rfl ?_
  refine ax_aload_n (pc' := 1) dX12_comes_0 rfl rfl ?_
  refine ax_iconst (pc' := 2) (v := (0 : Int32)) dX12_comes_1 (by decide) rfl ?_
  refine ax_iload_n (pc' := 3) dX12_comes_2 rfl rfl ?_
  refine ax_iadd (pc' := 4) dX12_comes_3 rfl ?_
  refine ax_aload_n (pc' := 5) dX12_comes_4 rfl rfl ?_
  refine ax_getR (pc' := 8) dX12_comes_5 fl_X12_37 sh_69 rfl rfl rfl ?_
  refine ax_iload_n (pc' := 9) dX12_comes_8 rfl rfl ?_
  obtain ⟨hj9, H⟩ := H
  refine ax_aald (pc' := 10) dX12_comes_9 sh_101 hj9 rfl rfl ?_
  refine ax_iconst (pc' := 11) (v := (3 : Int32)) dX12_comes_10 (by decide) rfl ?_
  refine ax_iald (pc' := 12) dX12_comes_11 (sh_r_102 _ (ac_lt hj9)) (ac_in (by decide)) (qn_102 _ (ac_lt hj9)) rfl ?_
  obtain ⟨hj12, H⟩ := H
  refine ax_iast (pc' := 13) dX12_comes_12 hr1 hj12 hn1 rfl ?_
  refine ax_aload_n (pc' := 14) dX12_comes_13 rfl rfl ?_
  refine ax_bipush (pc' := 16) (v := (13 : Int32)) dX12_comes_14 (by decide) rfl ?_
  refine ax_iload_n (pc' := 17) dX12_comes_16 rfl rfl ?_
  refine ax_iadd (pc' := 18) dX12_comes_17 rfl ?_
  refine ax_iconst (pc' := 19) (v := (0 : Int32)) dX12_comes_18 (by decide) rfl ?_
  obtain ⟨hj19, H⟩ := H
  refine ax_iast (pc' := 20) dX12_comes_19 hr1 hj19 hn1 rfl ?_
  refine ax_aload_n (pc' := 21) dX12_comes_20 rfl rfl ?_
  refine ax_bipush (pc' := 23) (v := (26 : Int32)) dX12_comes_21 (by decide) rfl ?_
  refine ax_iload_n (pc' := 24) dX12_comes_23 rfl rfl ?_
  refine ax_iadd (pc' := 25) dX12_comes_24 rfl ?_
  refine ax_aload_n (pc' := 26) dX12_comes_25 rfl rfl ?_
  refine ax_getR (pc' := 29) dX12_comes_26 fl_X12_37 sh_69 rfl rfl rfl ?_
  refine ax_iload_n (pc' := 30) dX12_comes_29 rfl rfl ?_
  obtain ⟨hj30, H⟩ := H
  refine ax_aald (pc' := 31) dX12_comes_30 sh_101 hj30 rfl rfl ?_
  refine ax_iconst (pc' := 32) (v := (0 : Int32)) dX12_comes_31 (by decide) rfl ?_
  refine ax_iald (pc' := 33) dX12_comes_32 (sh_r_102 _ (ac_lt hj30)) (ac_in (by decide)) (qn_102 _ (ac_lt hj30)) rfl ?_
  obtain ⟨hj33, H⟩ := H
  refine ax_iast (pc' := 34) dX12_comes_33 hr1 hj33 hn1 rfl ?_
  exact ax_vret dX12_comes_34 rfl rfl rfl ⟨_, rfl, rfl, H⟩
theorem ql_X12_beginsAnew_150 {g : ac_G} {τ : Nat → Nat → Int64} (d : Nat)  {Q : ac_m → Prop}    {x1 : Int32} {s : ac_m} (H : l_X12_beginsAnew_150  Q    x1 s) : ac_X g i_X12_beginsAnew (d + 1) 0 0 (lgV true 585 SH τ Q) 0 0 150 [some (.ref 69), some (.int x1)] [] (true, 585, SH, s, τ) := by
  refine H (fun x1 s => ac_X g i_X12_beginsAnew (d + 1) 0 0 (lgV true 585 SH τ Q) 0 0 150 [some (.ref 69), some (.int x1)] [] (true, 585, SH, s, τ)) ?_
  intro x1 s H
  refine ax_iload_n (pc' := 151) dX12_beginsAnew_150 rfl rfl ?_
  refine ax_aload_n (pc' := 152) dX12_beginsAnew_151 rfl rfl ?_
  refine ax_getR (pc' := 155) dX12_beginsAnew_152 fl_X12_23 sh_69 rfl rfl rfl ?_
  refine ax_iconst (pc' := 156) (v := (0 : Int32)) dX12_beginsAnew_155 (by decide) rfl ?_
  refine ax_iald (pc' := 157) dX12_beginsAnew_156 sh_73 (ac_in (by decide)) rfl rfl ?_
  refine ax_icmp_ge (pc' := 160) (tgt := 183) dX12_beginsAnew_157 (by decide) rfl (fun hc157 => ?_) (fun hc157 => ?_)
  · have H := H.1 hc157
    refine ax_aload_n (pc' := 184) dX12_beginsAnew_183 rfl rfl ?_
    refine ax_iconst (pc' := 185) (v := (0 : Int32)) dX12_beginsAnew_184 (by decide) rfl ?_
    refine ax_putI (pc' := 188) dX12_beginsAnew_185 fp_X12_204 sh_69 rfl rfl rfl ?_
    refine ax_aload_n (pc' := 189) dX12_beginsAnew_188 rfl rfl ?_
    refine ax_iconst (pc' := 190) (v := (0 : Int32)) dX12_beginsAnew_189 (by decide) rfl ?_
    refine ax_putI (pc' := 193) dX12_beginsAnew_190 fp_X12_207 sh_69 rfl rfl rfl ?_
    refine ax_aload_n (pc' := 194) dX12_beginsAnew_193 rfl rfl ?_
    refine ax_iconst (pc' := 195) (v := (0 : Int32)) dX12_beginsAnew_194 (by decide) rfl ?_
    refine ax_putI (pc' := 198) dX12_beginsAnew_195 fp_X12_210 sh_69 rfl rfl rfl ?_
    refine ax_aload_n (pc' := 199) dX12_beginsAnew_198 rfl rfl ?_
    refine ax_iconst (pc' := 200) (v := (0 : Int32)) dX12_beginsAnew_199 (by decide) rfl ?_
    refine ax_putI (pc' := 203) dX12_beginsAnew_200 fp_X12_213 sh_69 rfl rfl rfl ?_
    refine ax_aload_n (pc' := 204) dX12_beginsAnew_203 rfl rfl ?_
    refine ax_iconst (pc' := 205) (v := (0 : Int32)) dX12_beginsAnew_204 (by decide) rfl ?_
    refine ax_putI (pc' := 208) dX12_beginsAnew_205 fp_X12_216 sh_69 rfl rfl rfl ?_
    exact ax_vret dX12_beginsAnew_208 rfl rfl rfl ⟨_, rfl, rfl, H⟩
  · have H := H.2 hc157
    refine ax_aload_n (pc' := 161) dX12_beginsAnew_160 rfl rfl ?_
    refine ax_getR (pc' := 164) dX12_beginsAnew_161 fl_X12_67 sh_69 rfl rfl rfl ?_
    refine ax_bipush (pc' := 166) (v := (39 : Int32)) dX12_beginsAnew_164 (by decide) rfl ?_
    refine ax_iload_n (pc' := 167) dX12_beginsAnew_166 rfl rfl ?_
    refine ax_iadd (pc' := 168) dX12_beginsAnew_167 rfl ?_
    refine ax_aload_n (pc' := 169) dX12_beginsAnew_168 rfl rfl ?_
    refine ax_getR (pc' := 172) dX12_beginsAnew_169 fl_X12_31 sh_69 rfl rfl rfl ?_
    refine ax_iload_n (pc' := 173) dX12_beginsAnew_172 rfl rfl ?_
    obtain ⟨hj173, H⟩ := H
    refine ax_aald (pc' := 174) dX12_beginsAnew_173 sh_81 hj173 rfl rfl ?_
    refine ax_iconst (pc' := 175) (v := (0 : Int32)) dX12_beginsAnew_174 (by decide) rfl ?_
    refine ax_iald (pc' := 176) dX12_beginsAnew_175 (sh_r_82 _ (ac_lt hj173)) (ac_in (by decide)) (qn_82 _ (ac_lt hj173)) rfl ?_
    obtain ⟨hj176, H⟩ := H
    refine ax_iast (pc' := 177) dX12_beginsAnew_176 sh_556 hj176 rfl rfl ?_
    refine ax_iinc (pc' := 180) (v := (x1 + (1 : Int32))) dX12_beginsAnew_177 rfl rfl rfl rfl rfl ?_
    refine ax_goto (tgt := 150) dX12_beginsAnew_180 (by decide) ?_
    exact H
theorem ql_X12_beginsAnew_123 {g : ac_G} {τ : Nat → Nat → Int64} (d : Nat)  {Q : ac_m → Prop}    {x1 : Int32} {s : ac_m} (H : l_X12_beginsAnew_123  Q    x1 s) : ac_X g i_X12_beginsAnew (d + 1) 0 0 (lgV true 585 SH τ Q) 0 0 123 [some (.ref 69), some (.int x1)] [] (true, 585, SH, s, τ) := by
  refine H (fun x1 s => ac_X g i_X12_beginsAnew (d + 1) 0 0 (lgV true 585 SH τ Q) 0 0 123 [some (.ref 69), some (.int x1)] [] (true, 585, SH, s, τ)) ?_
  intro x1 s H
  refine ax_iload_n (pc' := 124) dX12_beginsAnew_123 rfl rfl ?_
  refine ax_aload_n (pc' := 125) dX12_beginsAnew_124 rfl rfl ?_
  refine ax_getR (pc' := 128) dX12_beginsAnew_125 fl_X12_23 sh_69 rfl rfl rfl ?_
  refine ax_iconst (pc' := 129) (v := (1 : Int32)) dX12_beginsAnew_128 (by decide) rfl ?_
  refine ax_iald (pc' := 130) dX12_beginsAnew_129 sh_73 (ac_in (by decide)) rfl rfl ?_
  refine ax_icmp_ge (pc' := 133) (tgt := 148) dX12_beginsAnew_130 (by decide) rfl (fun hc130 => ?_) (fun hc130 => ?_)
  · have H := H.1 hc130
    refine ax_iconst (pc' := 149) (v := (0 : Int32)) dX12_beginsAnew_148 (by decide) rfl ?_
    refine ax_istore_n (pc' := 150) dX12_beginsAnew_149 rfl rfl rfl ?_
    refine ql_X12_beginsAnew_150 d       H
  · have H := H.2 hc130
    refine ax_aload_n (pc' := 134) dX12_beginsAnew_133 rfl rfl ?_
    refine ax_aload_n (pc' := 135) dX12_beginsAnew_134 rfl rfl ?_
    refine ax_getR (pc' := 138) dX12_beginsAnew_135 fl_X12_67 sh_69 rfl rfl rfl ?_
    refine ax_iload_n (pc' := 139) dX12_beginsAnew_138 rfl rfl ?_
    refine ay_V2 (pc' := 142) (ce' := 0) (sl' := 0) (mc2 := 0) (ms2 := 0) (I2 := i_X12_comes) dX12_beginsAnew_139 ml_X12_200 sh_69 (by decide) rfl rfl rfl rfl rfl rfl rfl rfl rfl (ac_M.imp (q_X12_comes _ 556 x1 sh_556 rfl H) ?_)
    rintro _ _ ⟨s139, rfl, rfl, H⟩
    refine ax_iinc (pc' := 145) (v := (x1 + (1 : Int32))) dX12_beginsAnew_142 rfl rfl rfl rfl rfl ?_
    refine ax_goto (tgt := 123) dX12_beginsAnew_145 (by decide) ?_
    exact H
theorem ql_X12_beginsAnew_99 {g : ac_G} {τ : Nat → Nat → Int64} (d : Nat)  {Q : ac_m → Prop}    {x1 : Int32} {s : ac_m} (H : l_X12_beginsAnew_99  Q    x1 s) : ac_X g i_X12_beginsAnew (d + 1) 0 0 (lgV true 585 SH τ Q) 0 0 99 [some (.ref 69), some (.int x1)] [] (true, 585, SH, s, τ) := by
  refine H (fun x1 s => ac_X g i_X12_beginsAnew (d + 1) 0 0 (lgV true 585 SH τ Q) 0 0 99 [some (.ref 69), some (.int x1)] [] (true, 585, SH, s, τ)) ?_
  intro x1 s H
  refine ax_iload_n (pc' := 100) dX12_beginsAnew_99 rfl rfl ?_
  refine ax_bipush (pc' := 102) (v := (12 : Int32)) dX12_beginsAnew_100 (by decide) rfl ?_
  refine ax_icmp_gt (pc' := 105) (tgt := 121) dX12_beginsAnew_102 (by decide) rfl (fun hc102 => ?_) (fun hc102 => ?_)
  · have H := H.1 hc102
    refine ax_iconst (pc' := 122) (v := (0 : Int32)) dX12_beginsAnew_121 (by decide) rfl ?_
    refine ax_istore_n (pc' := 123) dX12_beginsAnew_122 rfl rfl rfl ?_
    refine ql_X12_beginsAnew_123 d       H
  · have H := H.2 hc102
    refine ax_aload_n (pc' := 106) dX12_beginsAnew_105 rfl rfl ?_
    refine ax_getR (pc' := 109) dX12_beginsAnew_106 fl_X12_67 sh_69 rfl rfl rfl ?_
    refine ax_bipush (pc' := 111) (v := (26 : Int32)) dX12_beginsAnew_109 (by decide) rfl ?_
    refine ax_iload_n (pc' := 112) dX12_beginsAnew_111 rfl rfl ?_
    refine ax_iadd (pc' := 113) dX12_beginsAnew_112 rfl ?_
    refine ax_iconst (pc' := 114) (v := (-1 : Int32)) dX12_beginsAnew_113 (by decide) rfl ?_
    obtain ⟨hj114, H⟩ := H
    refine ax_iast (pc' := 115) dX12_beginsAnew_114 sh_556 hj114 rfl rfl ?_
    refine ax_iinc (pc' := 118) (v := (x1 + (1 : Int32))) dX12_beginsAnew_115 rfl rfl rfl rfl rfl ?_
    refine ax_goto (tgt := 99) dX12_beginsAnew_118 (by decide) ?_
    exact H
theorem ql_X12_beginsAnew_78 {g : ac_G} {τ : Nat → Nat → Int64} (d : Nat)  {Q : ac_m → Prop}    {x1 : Int32} {s : ac_m} (H : l_X12_beginsAnew_78  Q    x1 s) : ac_X g i_X12_beginsAnew (d + 1) 0 0 (lgV true 585 SH τ Q) 0 0 78 [some (.ref 69), some (.int x1)] [] (true, 585, SH, s, τ) := by
  refine H (fun x1 s => ac_X g i_X12_beginsAnew (d + 1) 0 0 (lgV true 585 SH τ Q) 0 0 78 [some (.ref 69), some (.int x1)] [] (true, 585, SH, s, τ)) ?_
  intro x1 s H
  refine ax_iload_n (pc' := 79) dX12_beginsAnew_78 rfl rfl ?_
  refine ax_bipush (pc' := 81) (v := (83 : Int32)) dX12_beginsAnew_79 (by decide) rfl ?_
  refine ax_icmp_ge (pc' := 84) (tgt := 97) dX12_beginsAnew_81 (by decide) rfl (fun hc81 => ?_) (fun hc81 => ?_)
  · have H := H.1 hc81
    refine ax_iconst (pc' := 98) (v := (0 : Int32)) dX12_beginsAnew_97 (by decide) rfl ?_
    refine ax_istore_n (pc' := 99) dX12_beginsAnew_98 rfl rfl rfl ?_
    refine ql_X12_beginsAnew_99 d       H
  · have H := H.2 hc81
    refine ax_aload_n (pc' := 85) dX12_beginsAnew_84 rfl rfl ?_
    refine ax_getR (pc' := 88) dX12_beginsAnew_85 fl_X12_67 sh_69 rfl rfl rfl ?_
    refine ax_iload_n (pc' := 89) dX12_beginsAnew_88 rfl rfl ?_
    refine ax_iconst (pc' := 90) (v := (0 : Int32)) dX12_beginsAnew_89 (by decide) rfl ?_
    obtain ⟨hj90, H⟩ := H
    refine ax_iast (pc' := 91) dX12_beginsAnew_90 sh_556 hj90 rfl rfl ?_
    refine ax_iinc (pc' := 94) (v := (x1 + (1 : Int32))) dX12_beginsAnew_91 rfl rfl rfl rfl rfl ?_
    refine ax_goto (tgt := 78) dX12_beginsAnew_94 (by decide) ?_
    exact H
theorem ql_X12_beginsAnew_2 {g : ac_G} {τ : Nat → Nat → Int64} (d : Nat)  {Q : ac_m → Prop}    {x1 : Int32} {s : ac_m} (H : l_X12_beginsAnew_2  Q    x1 s) : ac_X g i_X12_beginsAnew (d + 1) 0 0 (lgV true 585 SH τ Q) 0 0 2 [some (.ref 69), some (.int x1)] [] (true, 585, SH, s, τ) := by
  refine H (fun x1 s => ac_X g i_X12_beginsAnew (d + 1) 0 0 (lgV true 585 SH τ Q) 0 0 2 [some (.ref 69), some (.int x1)] [] (true, 585, SH, s, τ)) ?_
  intro x1 s H
  refine ax_iload_n (pc' := 3) dX12_beginsAnew_2 rfl rfl ?_
  refine ax_iconst (pc' := 4) (v := (3 : Int32)) dX12_beginsAnew_3 (by decide) rfl ?_
  refine ax_icmp_ge (pc' := 7) (tgt := 25) dX12_beginsAnew_4 (by decide) rfl (fun hc4 => ?_) (fun hc4 => ?_)
  · have H := H.1 hc4
    refine ax_aload_n (pc' := 26) dX12_beginsAnew_25 rfl rfl ?_
    refine ax_getR (pc' := 29) dX12_beginsAnew_26 fl_X12_28 sh_69 rfl rfl rfl ?_
    refine ax_aload_n (pc' := 30) dX12_beginsAnew_29 rfl rfl ?_
    refine ax_getR (pc' := 33) dX12_beginsAnew_30 fl_X12_31 sh_69 rfl rfl rfl ?_
    refine ax_aload_n (pc' := 34) dX12_beginsAnew_33 rfl rfl ?_
    refine ax_getR (pc' := 37) dX12_beginsAnew_34 fl_X12_23 sh_69 rfl rfl rfl ?_
    refine ax_iconst (pc' := 38) (v := (0 : Int32)) dX12_beginsAnew_37 (by decide) rfl ?_
    refine ax_iald (pc' := 39) dX12_beginsAnew_38 sh_73 (ac_in (by decide)) rfl rfl ?_
    refine ay_S3 (pc' := 42) (ce' := 0) (sl' := 0) (mc2 := 0) (ms2 := 0) (I2 := i_X12_lays) dX12_beginsAnew_39 ml_X12_196 rfl rfl rfl rfl rfl rfl rfl rfl (ac_M.imp (q_X12_lays _ 74 6 75 2 81 6 82 (s 73 (0 : Int32).toNatClampNeg) sh_74 rfl sh_r_75 qn_75 sh_81 rfl sh_r_82 qn_82 H) ?_)
    rintro _ _ ⟨s39, rfl, rfl, H⟩
    refine ax_aload_n (pc' := 43) dX12_beginsAnew_42 rfl rfl ?_
    refine ax_getR (pc' := 46) dX12_beginsAnew_43 fl_X12_34 sh_69 rfl rfl rfl ?_
    refine ax_aload_n (pc' := 47) dX12_beginsAnew_46 rfl rfl ?_
    refine ax_getR (pc' := 50) dX12_beginsAnew_47 fl_X12_37 sh_69 rfl rfl rfl ?_
    refine ax_aload_n (pc' := 51) dX12_beginsAnew_50 rfl rfl ?_
    refine ax_getR (pc' := 54) dX12_beginsAnew_51 fl_X12_23 sh_69 rfl rfl rfl ?_
    refine ax_iconst (pc' := 55) (v := (1 : Int32)) dX12_beginsAnew_54 (by decide) rfl ?_
    refine ax_iald (pc' := 56) dX12_beginsAnew_55 sh_73 (ac_in (by decide)) rfl rfl ?_
    refine ay_S3 (pc' := 59) (ce' := 0) (sl' := 0) (mc2 := 0) (ms2 := 0) (I2 := i_X12_lays) dX12_beginsAnew_56 ml_X12_196 rfl rfl rfl rfl rfl rfl rfl rfl (ac_M.imp (q_X12_lays _ 88 12 89 4 101 13 102 (s39 73 (1 : Int32).toNatClampNeg) sh_88 rfl sh_r_89 qn_89 sh_101 rfl sh_r_102 qn_102 H) ?_)
    rintro _ _ ⟨s56, rfl, rfl, H⟩
    refine ax_aload_n (pc' := 60) dX12_beginsAnew_59 rfl rfl ?_
    refine ax_getR (pc' := 63) dX12_beginsAnew_60 fl_X12_40 sh_69 rfl rfl rfl ?_
    refine ax_aload_n (pc' := 64) dX12_beginsAnew_63 rfl rfl ?_
    refine ax_getR (pc' := 67) dX12_beginsAnew_64 fl_X12_43 sh_69 rfl rfl rfl ?_
    refine ax_aload_n (pc' := 68) dX12_beginsAnew_67 rfl rfl ?_
    refine ax_getR (pc' := 71) dX12_beginsAnew_68 fl_X12_23 sh_69 rfl rfl rfl ?_
    refine ax_iconst (pc' := 72) (v := (2 : Int32)) dX12_beginsAnew_71 (by decide) rfl ?_
    refine ax_iald (pc' := 73) dX12_beginsAnew_72 sh_73 (ac_in (by decide)) rfl rfl ?_
    refine ay_S3 (pc' := 76) (ce' := 0) (sl' := 0) (mc2 := 0) (ms2 := 0) (I2 := i_X12_lays) dX12_beginsAnew_73 ml_X12_196 rfl rfl rfl rfl rfl rfl rfl rfl (ac_M.imp (q_X12_lays _ 115 10 116 3 126 10 127 (s56 73 (2 : Int32).toNatClampNeg) sh_115 rfl sh_r_116 qn_116 sh_126 rfl sh_r_127 qn_127 H) ?_)
    rintro _ _ ⟨s73, rfl, rfl, H⟩
    refine ax_iconst (pc' := 77) (v := (0 : Int32)) dX12_beginsAnew_76 (by decide) rfl ?_
    refine ax_istore_n (pc' := 78) dX12_beginsAnew_77 rfl rfl rfl ?_
    refine ql_X12_beginsAnew_78 d       H
  · have H := H.2 hc4
    refine ax_aload_n (pc' := 8) dX12_beginsAnew_7 rfl rfl ?_
    refine ax_getR (pc' := 11) dX12_beginsAnew_8 fl_X12_23 sh_69 rfl rfl rfl ?_
    refine ax_iload_n (pc' := 12) dX12_beginsAnew_11 rfl rfl ?_
    refine ax_aload_n (pc' := 13) dX12_beginsAnew_12 rfl rfl ?_
    refine ax_getR (pc' := 16) dX12_beginsAnew_13 fl_X12_20 sh_69 rfl rfl rfl ?_
    refine ax_iload_n (pc' := 17) dX12_beginsAnew_16 rfl rfl ?_
    obtain ⟨hj17, H⟩ := H
    refine ax_iald (pc' := 18) dX12_beginsAnew_17 sh_72 hj17 rfl rfl ?_
    obtain ⟨hj18, H⟩ := H
    refine ax_iast (pc' := 19) dX12_beginsAnew_18 sh_73 hj18 rfl rfl ?_
    refine ax_iinc (pc' := 22) (v := (x1 + (1 : Int32))) dX12_beginsAnew_19 rfl rfl rfl rfl rfl ?_
    refine ax_goto (tgt := 2) dX12_beginsAnew_22 (by decide) ?_
    exact H
theorem q_X12_beginsAnew {g : ac_G} {τ : Nat → Nat → Int64} (d : Nat)  {Q : ac_m → Prop} {s : ac_m} (H : w_X12_beginsAnew  Q s) : ac_M g i_X12_beginsAnew (d + 1) 0 0 [.ref 69] (true, 585, SH, s, τ) (lgV true 585 SH τ Q) := by
  refine ac_ofX (by decide +kernel) rfl rfl rfl ?_
  refine ax_iconst (pc' := 1) (v := (0 : Int32)) dX12_beginsAnew_0 (by decide) rfl ?_
  refine ax_istore_n (pc' := 2) dX12_beginsAnew_1 rfl rfl rfl ?_
  refine ql_X12_beginsAnew_2 d       H
theorem cl_X12_26 : Cond.classLink RX12 26 "[[I" ∈ ac_tb := (ac_at 1541 (by decide +kernel) (by decide +kernel))
theorem k_X12 {g : ac_G} {τ : Nat → Nat → Int64} (d : Nat) {Q : ac_O → ac_W → Prop} {σ : ac_m} (hz : ∀ y, 70 ≤ y → σ y = fun _ => 0) (hT : τ 584 = fun _ => 0) (H : w_X12_tellsNothing (fun s1 => w_X12_beginsAnew (fun s2 => Q (.inl none) (true, 585, SH, s2, τ)) s1) (ac_u σ 69 3 (-1))) : ac_M g i_X12_init (d + 2) 515 8314 [.ref 69] (true, 70, ac_us SH 69 (NUL (SH 69)), σ, τ) Q := by
  refine ac_ofX (by decide +kernel) rfl rfl rfl ?_
  refine ax_aload_n (pc' := 1) dX12_init_0 rfl rfl ?_
  refine ax_obj0 (pc' := 4) dX12_init_1 oi_X12 oi_2 oi_3 rfl rfl ?_
  refine ax_aload_n (pc' := 5) dX12_init_4 rfl rfl ?_
  refine ax_iconst (pc' := 6) (v := (-1 : Int32)) dX12_init_5 (by decide) rfl ?_
  refine ax_putI (pc' := 9) (tm := [none, none, none, none, none, none, none, none, none, some Value.null, some Value.null, some Value.null, some Value.null, some Value.null, some Value.null, some Value.null, some Value.null, some Value.null, some Value.null, none, none, some Value.null, some Value.null, some Value.null, some Value.null, some Value.null, some Value.null, some Value.null, none, some Value.null, some Value.null, some Value.null, some Value.null, some Value.null, none, none, none, none, none, none, none, some Value.null, some Value.null, some Value.null, some Value.null, some Value.null, none]) dX12_init_6 fp_X12_9 (by decide +kernel) rfl rfl rfl ?_
  have hz1 : ∀ y, 70 ≤ y → (ac_u σ 69 3 (-1 : Int32)) y = fun _ => 0 := fun y hy => by rw [u_ne (by omega)]; exact hz y (by omega)
  refine ax_aload_n (pc' := 10) dX12_init_9 rfl rfl ?_
  refine ax_sipush (pc' := 13) (v := (600 : Int32)) dX12_init_10 (by decide) rfl ?_
  refine ax_newI (pc' := 15) (b := 0) (n := 600) dX12_init_13 ar_int (by decide +kernel) (hz1 70 (by decide)) rfl rfl rfl rfl rfl rfl ?_
  refine ax_putR (pc' := 18) (tm := [none, none, none, none, none, none, none, none, none, some Value.null, some Value.null, some Value.null, some Value.null, some Value.null, some Value.null, some Value.null, some Value.null, some Value.null, some Value.null, none, none, some Value.null, some Value.null, some Value.null, some Value.null, some Value.null, some Value.null, some Value.null, none, some Value.null, some Value.null, some Value.null, some Value.null, some Value.null, none, none, none, none, none, none, none, some Value.null, some Value.null, some Value.null, some Value.null, some Value.null, none]) dX12_init_15 fp_X12_13 rfl (fun _ => rfl) (fun _ => rfl) (by decide +kernel) rfl rfl rfl ?_
  refine ax_aload_n (pc' := 19) dX12_init_18 rfl rfl ?_
  refine ax_iconst (pc' := 20) (v := (2 : Int32)) dX12_init_19 (by decide) rfl ?_
  refine ax_newI (pc' := 22) (b := 0) (n := 2) dX12_init_20 ar_int (by decide +kernel) (hz1 71 (by decide)) rfl rfl rfl rfl rfl rfl ?_
  refine ax_putR (pc' := 25) (tm := [none, none, none, none, none, none, none, none, none, some (.ref 70), some Value.null, some Value.null, some Value.null, some Value.null, some Value.null, some Value.null, some Value.null, some Value.null, some Value.null, none, none, some Value.null, some Value.null, some Value.null, some Value.null, some Value.null, some Value.null, some Value.null, none, some Value.null, some Value.null, some Value.null, some Value.null, some Value.null, none, none, none, none, none, none, none, some Value.null, some Value.null, some Value.null, some Value.null, some Value.null, none]) dX12_init_22 fp_X12_17 rfl (fun _ => rfl) (fun _ => rfl) (by decide +kernel) rfl rfl rfl ?_
  refine ax_aload_n (pc' := 26) dX12_init_25 rfl rfl ?_
  refine ax_iconst (pc' := 27) (v := (3 : Int32)) dX12_init_26 (by decide) rfl ?_
  refine ax_newI (pc' := 29) (b := 0) (n := 3) dX12_init_27 ar_int (by decide +kernel) (hz1 72 (by decide)) rfl rfl rfl rfl rfl rfl ?_
  refine ax_putR (pc' := 32) (tm := [none, none, none, none, none, none, none, none, none, some (.ref 70), some (.ref 71), some Value.null, some Value.null, some Value.null, some Value.null, some Value.null, some Value.null, some Value.null, some Value.null, none, none, some Value.null, some Value.null, some Value.null, some Value.null, some Value.null, some Value.null, some Value.null, none, some Value.null, some Value.null, some Value.null, some Value.null, some Value.null, none, none, none, none, none, none, none, some Value.null, some Value.null, some Value.null, some Value.null, some Value.null, none]) dX12_init_29 fp_X12_20 rfl (fun _ => rfl) (fun _ => rfl) (by decide +kernel) rfl rfl rfl ?_
  refine ax_aload_n (pc' := 33) dX12_init_32 rfl rfl ?_
  refine ax_iconst (pc' := 34) (v := (3 : Int32)) dX12_init_33 (by decide) rfl ?_
  refine ax_newI (pc' := 36) (b := 0) (n := 3) dX12_init_34 ar_int (by decide +kernel) (hz1 73 (by decide)) rfl rfl rfl rfl rfl rfl ?_
  refine ax_putR (pc' := 39) (tm := [none, none, none, none, none, none, none, none, none, some (.ref 70), some (.ref 71), some (.ref 72), some Value.null, some Value.null, some Value.null, some Value.null, some Value.null, some Value.null, some Value.null, none, none, some Value.null, some Value.null, some Value.null, some Value.null, some Value.null, some Value.null, some Value.null, none, some Value.null, some Value.null, some Value.null, some Value.null, some Value.null, none, none, none, none, none, none, none, some Value.null, some Value.null, some Value.null, some Value.null, some Value.null, none]) dX12_init_36 fp_X12_23 rfl (fun _ => rfl) (fun _ => rfl) (by decide +kernel) rfl rfl rfl ?_
  refine ax_aload_n (pc' := 40) dX12_init_39 rfl rfl ?_
  refine ax_bipush (pc' := 42) (v := (6 : Int32)) dX12_init_40 (by decide) rfl ?_
  refine ax_iconst (pc' := 43) (v := (2 : Int32)) dX12_init_42 (by decide) rfl ?_
  refine ax_mna (pc' := 47) (n := 6) (k := 2) dX12_init_43 cl_X12_26 ar_int (b := 0) (by decide +kernel) (by decide +kernel) (fun j hj => hz1 _ (by omega)) rfl rfl rfl rfl rfl rfl rfl rfl ?_
  refine ax_putR (pc' := 50) (tm := [none, none, none, none, none, none, none, none, none, some (.ref 70), some (.ref 71), some (.ref 72), some (.ref 73), some Value.null, some Value.null, some Value.null, some Value.null, some Value.null, some Value.null, none, none, some Value.null, some Value.null, some Value.null, some Value.null, some Value.null, some Value.null, some Value.null, none, some Value.null, some Value.null, some Value.null, some Value.null, some Value.null, none, none, none, none, none, none, none, some Value.null, some Value.null, some Value.null, some Value.null, some Value.null, none]) dX12_init_47 fp_X12_28 rfl (fun _ => rfl) (fun _ => rfl) (by decide +kernel) rfl rfl rfl ?_
  refine ax_aload_n (pc' := 51) dX12_init_50 rfl rfl ?_
  refine ax_bipush (pc' := 53) (v := (6 : Int32)) dX12_init_51 (by decide) rfl ?_
  refine ax_iconst (pc' := 54) (v := (2 : Int32)) dX12_init_53 (by decide) rfl ?_
  refine ax_mna (pc' := 58) (n := 6) (k := 2) dX12_init_54 cl_X12_26 ar_int (b := 0) (by decide +kernel) (by decide +kernel) (fun j hj => hz1 _ (by omega)) rfl rfl rfl rfl rfl rfl rfl rfl ?_
  refine ax_putR (pc' := 61) (tm := [none, none, none, none, none, none, none, none, none, some (.ref 70), some (.ref 71), some (.ref 72), some (.ref 73), some (.ref 74), some Value.null, some Value.null, some Value.null, some Value.null, some Value.null, none, none, some Value.null, some Value.null, some Value.null, some Value.null, some Value.null, some Value.null, some Value.null, none, some Value.null, some Value.null, some Value.null, some Value.null, some Value.null, none, none, none, none, none, none, none, some Value.null, some Value.null, some Value.null, some Value.null, some Value.null, none]) dX12_init_58 fp_X12_31 rfl (fun _ => rfl) (fun _ => rfl) (by decide +kernel) rfl rfl rfl ?_
  refine ax_aload_n (pc' := 62) dX12_init_61 rfl rfl ?_
  refine ax_bipush (pc' := 64) (v := (12 : Int32)) dX12_init_62 (by decide) rfl ?_
  refine ax_iconst (pc' := 65) (v := (4 : Int32)) dX12_init_64 (by decide) rfl ?_
  refine ax_mna (pc' := 69) (n := 12) (k := 4) dX12_init_65 cl_X12_26 ar_int (b := 0) (by decide +kernel) (by decide +kernel) (fun j hj => hz1 _ (by omega)) rfl rfl rfl rfl rfl rfl rfl rfl ?_
  refine ax_putR (pc' := 72) (tm := [none, none, none, none, none, none, none, none, none, some (.ref 70), some (.ref 71), some (.ref 72), some (.ref 73), some (.ref 74), some (.ref 81), some Value.null, some Value.null, some Value.null, some Value.null, none, none, some Value.null, some Value.null, some Value.null, some Value.null, some Value.null, some Value.null, some Value.null, none, some Value.null, some Value.null, some Value.null, some Value.null, some Value.null, none, none, none, none, none, none, none, some Value.null, some Value.null, some Value.null, some Value.null, some Value.null, none]) dX12_init_69 fp_X12_34 rfl (fun _ => rfl) (fun _ => rfl) (by decide +kernel) rfl rfl rfl ?_
  refine ax_aload_n (pc' := 73) dX12_init_72 rfl rfl ?_
  refine ax_bipush (pc' := 75) (v := (13 : Int32)) dX12_init_73 (by decide) rfl ?_
  refine ax_iconst (pc' := 76) (v := (4 : Int32)) dX12_init_75 (by decide) rfl ?_
  refine ax_mna (pc' := 80) (n := 13) (k := 4) dX12_init_76 cl_X12_26 ar_int (b := 0) (by decide +kernel) (by decide +kernel) (fun j hj => hz1 _ (by omega)) rfl rfl rfl rfl rfl rfl rfl rfl ?_
  refine ax_putR (pc' := 83) (tm := [none, none, none, none, none, none, none, none, none, some (.ref 70), some (.ref 71), some (.ref 72), some (.ref 73), some (.ref 74), some (.ref 81), some (.ref 88), some Value.null, some Value.null, some Value.null, none, none, some Value.null, some Value.null, some Value.null, some Value.null, some Value.null, some Value.null, some Value.null, none, some Value.null, some Value.null, some Value.null, some Value.null, some Value.null, none, none, none, none, none, none, none, some Value.null, some Value.null, some Value.null, some Value.null, some Value.null, none]) dX12_init_80 fp_X12_37 rfl (fun _ => rfl) (fun _ => rfl) (by decide +kernel) rfl rfl rfl ?_
  refine ax_aload_n (pc' := 84) dX12_init_83 rfl rfl ?_
  refine ax_bipush (pc' := 86) (v := (10 : Int32)) dX12_init_84 (by decide) rfl ?_
  refine ax_iconst (pc' := 87) (v := (3 : Int32)) dX12_init_86 (by decide) rfl ?_
  refine ax_mna (pc' := 91) (n := 10) (k := 3) dX12_init_87 cl_X12_26 ar_int (b := 0) (by decide +kernel) (by decide +kernel) (fun j hj => hz1 _ (by omega)) rfl rfl rfl rfl rfl rfl rfl rfl ?_
  refine ax_putR (pc' := 94) (tm := [none, none, none, none, none, none, none, none, none, some (.ref 70), some (.ref 71), some (.ref 72), some (.ref 73), some (.ref 74), some (.ref 81), some (.ref 88), some (.ref 101), some Value.null, some Value.null, none, none, some Value.null, some Value.null, some Value.null, some Value.null, some Value.null, some Value.null, some Value.null, none, some Value.null, some Value.null, some Value.null, some Value.null, some Value.null, none, none, none, none, none, none, none, some Value.null, some Value.null, some Value.null, some Value.null, some Value.null, none]) dX12_init_91 fp_X12_40 rfl (fun _ => rfl) (fun _ => rfl) (by decide +kernel) rfl rfl rfl ?_
  refine ax_aload_n (pc' := 95) dX12_init_94 rfl rfl ?_
  refine ax_bipush (pc' := 97) (v := (10 : Int32)) dX12_init_95 (by decide) rfl ?_
  refine ax_iconst (pc' := 98) (v := (3 : Int32)) dX12_init_97 (by decide) rfl ?_
  refine ax_mna (pc' := 102) (n := 10) (k := 3) dX12_init_98 cl_X12_26 ar_int (b := 0) (by decide +kernel) (by decide +kernel) (fun j hj => hz1 _ (by omega)) rfl rfl rfl rfl rfl rfl rfl rfl ?_
  refine ax_putR (pc' := 105) (tm := [none, none, none, none, none, none, none, none, none, some (.ref 70), some (.ref 71), some (.ref 72), some (.ref 73), some (.ref 74), some (.ref 81), some (.ref 88), some (.ref 101), some (.ref 115), some Value.null, none, none, some Value.null, some Value.null, some Value.null, some Value.null, some Value.null, some Value.null, some Value.null, none, some Value.null, some Value.null, some Value.null, some Value.null, some Value.null, none, none, none, none, none, none, none, some Value.null, some Value.null, some Value.null, some Value.null, some Value.null, none]) dX12_init_102 fp_X12_43 rfl (fun _ => rfl) (fun _ => rfl) (by decide +kernel) rfl rfl rfl ?_
  refine ax_aload_n (pc' := 106) dX12_init_105 rfl rfl ?_
  refine ax_sipush (pc' := 109) (v := (160 : Int32)) dX12_init_106 (by decide) rfl ?_
  refine ax_iconst (pc' := 110) (v := (2 : Int32)) dX12_init_109 (by decide) rfl ?_
  refine ax_mna (pc' := 114) (n := 160) (k := 2) dX12_init_110 cl_X12_26 ar_int (b := 0) (by decide +kernel) (by decide +kernel) (fun j hj => hz1 _ (by omega)) rfl rfl rfl rfl rfl rfl rfl rfl ?_
  refine ax_putR (pc' := 117) (tm := [none, none, none, none, none, none, none, none, none, some (.ref 70), some (.ref 71), some (.ref 72), some (.ref 73), some (.ref 74), some (.ref 81), some (.ref 88), some (.ref 101), some (.ref 115), some (.ref 126), none, none, some Value.null, some Value.null, some Value.null, some Value.null, some Value.null, some Value.null, some Value.null, none, some Value.null, some Value.null, some Value.null, some Value.null, some Value.null, none, none, none, none, none, none, none, some Value.null, some Value.null, some Value.null, some Value.null, some Value.null, none]) dX12_init_114 fp_X12_46 rfl (fun _ => rfl) (fun _ => rfl) (by decide +kernel) rfl rfl rfl ?_
  refine ax_aload_n (pc' := 118) dX12_init_117 rfl rfl ?_
  refine ax_sipush (pc' := 121) (v := (160 : Int32)) dX12_init_118 (by decide) rfl ?_
  refine ax_iconst (pc' := 122) (v := (2 : Int32)) dX12_init_121 (by decide) rfl ?_
  refine ax_mna (pc' := 126) (n := 160) (k := 2) dX12_init_122 cl_X12_26 ar_int (b := 0) (by decide +kernel) (by decide +kernel) (fun j hj => hz1 _ (by omega)) rfl rfl rfl rfl rfl rfl rfl rfl ?_
  refine ax_putR (pc' := 129) (tm := [none, none, none, none, none, none, none, none, none, some (.ref 70), some (.ref 71), some (.ref 72), some (.ref 73), some (.ref 74), some (.ref 81), some (.ref 88), some (.ref 101), some (.ref 115), some (.ref 126), none, none, some (.ref 137), some Value.null, some Value.null, some Value.null, some Value.null, some Value.null, some Value.null, none, some Value.null, some Value.null, some Value.null, some Value.null, some Value.null, none, none, none, none, none, none, none, some Value.null, some Value.null, some Value.null, some Value.null, some Value.null, none]) dX12_init_126 fp_X12_49 rfl (fun _ => rfl) (fun _ => rfl) (by decide +kernel) rfl rfl rfl ?_
  refine ax_aload_n (pc' := 130) dX12_init_129 rfl rfl ?_
  refine ax_bipush (pc' := 132) (v := (6 : Int32)) dX12_init_130 (by decide) rfl ?_
  refine ax_iconst (pc' := 133) (v := (2 : Int32)) dX12_init_132 (by decide) rfl ?_
  refine ax_mna (pc' := 137) (n := 6) (k := 2) dX12_init_133 cl_X12_26 ar_int (b := 0) (by decide +kernel) (by decide +kernel) (fun j hj => hz1 _ (by omega)) rfl rfl rfl rfl rfl rfl rfl rfl ?_
  refine ax_putR (pc' := 140) (tm := [none, none, none, none, none, none, none, none, none, some (.ref 70), some (.ref 71), some (.ref 72), some (.ref 73), some (.ref 74), some (.ref 81), some (.ref 88), some (.ref 101), some (.ref 115), some (.ref 126), none, none, some (.ref 137), some (.ref 298), some Value.null, some Value.null, some Value.null, some Value.null, some Value.null, none, some Value.null, some Value.null, some Value.null, some Value.null, some Value.null, none, none, none, none, none, none, none, some Value.null, some Value.null, some Value.null, some Value.null, some Value.null, none]) dX12_init_137 fp_X12_52 rfl (fun _ => rfl) (fun _ => rfl) (by decide +kernel) rfl rfl rfl ?_
  refine ax_aload_n (pc' := 141) dX12_init_140 rfl rfl ?_
  refine ax_bipush (pc' := 143) (v := (6 : Int32)) dX12_init_141 (by decide) rfl ?_
  refine ax_iconst (pc' := 144) (v := (2 : Int32)) dX12_init_143 (by decide) rfl ?_
  refine ax_mna (pc' := 148) (n := 6) (k := 2) dX12_init_144 cl_X12_26 ar_int (b := 0) (by decide +kernel) (by decide +kernel) (fun j hj => hz1 _ (by omega)) rfl rfl rfl rfl rfl rfl rfl rfl ?_
  refine ax_putR (pc' := 151) (tm := [none, none, none, none, none, none, none, none, none, some (.ref 70), some (.ref 71), some (.ref 72), some (.ref 73), some (.ref 74), some (.ref 81), some (.ref 88), some (.ref 101), some (.ref 115), some (.ref 126), none, none, some (.ref 137), some (.ref 298), some (.ref 459), some Value.null, some Value.null, some Value.null, some Value.null, none, some Value.null, some Value.null, some Value.null, some Value.null, some Value.null, none, none, none, none, none, none, none, some Value.null, some Value.null, some Value.null, some Value.null, some Value.null, none]) dX12_init_148 fp_X12_55 rfl (fun _ => rfl) (fun _ => rfl) (by decide +kernel) rfl rfl rfl ?_
  refine ax_aload_n (pc' := 152) dX12_init_151 rfl rfl ?_
  refine ax_sipush (pc' := 155) (v := (160 : Int32)) dX12_init_152 (by decide) rfl ?_
  refine ax_newI (pc' := 157) (b := 0) (n := 160) dX12_init_155 ar_int (by decide +kernel) (hz1 473 (by decide)) rfl rfl rfl rfl rfl rfl ?_
  refine ax_putR (pc' := 160) (tm := [none, none, none, none, none, none, none, none, none, some (.ref 70), some (.ref 71), some (.ref 72), some (.ref 73), some (.ref 74), some (.ref 81), some (.ref 88), some (.ref 101), some (.ref 115), some (.ref 126), none, none, some (.ref 137), some (.ref 298), some (.ref 459), some (.ref 466), some Value.null, some Value.null, some Value.null, none, some Value.null, some Value.null, some Value.null, some Value.null, some Value.null, none, none, none, none, none, none, none, some Value.null, some Value.null, some Value.null, some Value.null, some Value.null, none]) dX12_init_157 fp_X12_58 rfl (fun _ => rfl) (fun _ => rfl) (by decide +kernel) rfl rfl rfl ?_
  refine ax_aload_n (pc' := 161) dX12_init_160 rfl rfl ?_
  refine ax_bipush (pc' := 163) (v := (8 : Int32)) dX12_init_161 (by decide) rfl ?_
  refine ax_newI (pc' := 165) (b := 0) (n := 8) dX12_init_163 ar_int (by decide +kernel) (hz1 474 (by decide)) rfl rfl rfl rfl rfl rfl ?_
  refine ax_putR (pc' := 168) (tm := [none, none, none, none, none, none, none, none, none, some (.ref 70), some (.ref 71), some (.ref 72), some (.ref 73), some (.ref 74), some (.ref 81), some (.ref 88), some (.ref 101), some (.ref 115), some (.ref 126), none, none, some (.ref 137), some (.ref 298), some (.ref 459), some (.ref 466), some (.ref 473), some Value.null, some Value.null, none, some Value.null, some Value.null, some Value.null, some Value.null, some Value.null, none, none, none, none, none, none, none, some Value.null, some Value.null, some Value.null, some Value.null, some Value.null, none]) dX12_init_165 fp_X12_61 rfl (fun _ => rfl) (fun _ => rfl) (by decide +kernel) rfl rfl rfl ?_
  refine ax_aload_n (pc' := 169) dX12_init_168 rfl rfl ?_
  refine ax_bipush (pc' := 171) (v := (80 : Int32)) dX12_init_169 (by decide) rfl ?_
  refine ax_iconst (pc' := 172) (v := (4 : Int32)) dX12_init_171 (by decide) rfl ?_
  refine ax_mna (pc' := 176) (n := 80) (k := 4) dX12_init_172 cl_X12_26 ar_int (b := 0) (by decide +kernel) (by decide +kernel) (fun j hj => hz1 _ (by omega)) rfl rfl rfl rfl rfl rfl rfl rfl ?_
  refine ax_putR (pc' := 179) (tm := [none, none, none, none, none, none, none, none, none, some (.ref 70), some (.ref 71), some (.ref 72), some (.ref 73), some (.ref 74), some (.ref 81), some (.ref 88), some (.ref 101), some (.ref 115), some (.ref 126), none, none, some (.ref 137), some (.ref 298), some (.ref 459), some (.ref 466), some (.ref 473), some (.ref 474), some Value.null, none, some Value.null, some Value.null, some Value.null, some Value.null, some Value.null, none, none, none, none, none, none, none, some Value.null, some Value.null, some Value.null, some Value.null, some Value.null, none]) dX12_init_176 fp_X12_64 rfl (fun _ => rfl) (fun _ => rfl) (by decide +kernel) rfl rfl rfl ?_
  refine ax_aload_n (pc' := 180) dX12_init_179 rfl rfl ?_
  refine ax_bipush (pc' := 182) (v := (83 : Int32)) dX12_init_180 (by decide) rfl ?_
  refine ax_newI (pc' := 184) (b := 0) (n := 83) dX12_init_182 ar_int (by decide +kernel) (hz1 556 (by decide)) rfl rfl rfl rfl rfl rfl ?_
  refine ax_putR (pc' := 187) (tm := [none, none, none, none, none, none, none, none, none, some (.ref 70), some (.ref 71), some (.ref 72), some (.ref 73), some (.ref 74), some (.ref 81), some (.ref 88), some (.ref 101), some (.ref 115), some (.ref 126), none, none, some (.ref 137), some (.ref 298), some (.ref 459), some (.ref 466), some (.ref 473), some (.ref 474), some (.ref 475), none, some Value.null, some Value.null, some Value.null, some Value.null, some Value.null, none, none, none, none, none, none, none, some Value.null, some Value.null, some Value.null, some Value.null, some Value.null, none]) dX12_init_184 fp_X12_67 rfl (fun _ => rfl) (fun _ => rfl) (by decide +kernel) rfl rfl rfl ?_
  refine ax_aload_n (pc' := 188) dX12_init_187 rfl rfl ?_
  refine ax_bipush (pc' := 190) (v := (83 : Int32)) dX12_init_188 (by decide) rfl ?_
  refine ax_newI (pc' := 192) (b := 0) (n := 83) dX12_init_190 ar_int (by decide +kernel) (hz1 557 (by decide)) rfl rfl rfl rfl rfl rfl ?_
  refine ax_putR (pc' := 195) (tm := [none, none, none, none, none, none, none, none, none, some (.ref 70), some (.ref 71), some (.ref 72), some (.ref 73), some (.ref 74), some (.ref 81), some (.ref 88), some (.ref 101), some (.ref 115), some (.ref 126), none, none, some (.ref 137), some (.ref 298), some (.ref 459), some (.ref 466), some (.ref 473), some (.ref 474), some (.ref 475), none, some (.ref 556), some Value.null, some Value.null, some Value.null, some Value.null, none, none, none, none, none, none, none, some Value.null, some Value.null, some Value.null, some Value.null, some Value.null, none]) dX12_init_192 fp_X12_70 rfl (fun _ => rfl) (fun _ => rfl) (by decide +kernel) rfl rfl rfl ?_
  refine ax_aload_n (pc' := 196) dX12_init_195 rfl rfl ?_
  refine ax_bipush (pc' := 198) (v := (13 : Int32)) dX12_init_196 (by decide) rfl ?_
  refine ax_newI (pc' := 200) (b := 0) (n := 13) dX12_init_198 ar_int (by decide +kernel) (hz1 558 (by decide)) rfl rfl rfl rfl rfl rfl ?_
  refine ax_putR (pc' := 203) (tm := [none, none, none, none, none, none, none, none, none, some (.ref 70), some (.ref 71), some (.ref 72), some (.ref 73), some (.ref 74), some (.ref 81), some (.ref 88), some (.ref 101), some (.ref 115), some (.ref 126), none, none, some (.ref 137), some (.ref 298), some (.ref 459), some (.ref 466), some (.ref 473), some (.ref 474), some (.ref 475), none, some (.ref 556), some (.ref 557), some Value.null, some Value.null, some Value.null, none, none, none, none, none, none, none, some Value.null, some Value.null, some Value.null, some Value.null, some Value.null, none]) dX12_init_200 fp_X12_73 rfl (fun _ => rfl) (fun _ => rfl) (by decide +kernel) rfl rfl rfl ?_
  refine ax_aload_n (pc' := 204) dX12_init_203 rfl rfl ?_
  refine ax_bipush (pc' := 206) (v := (16 : Int32)) dX12_init_204 (by decide) rfl ?_
  refine ax_bipush (pc' := 208) (v := (83 : Int32)) dX12_init_206 (by decide) rfl ?_
  refine ax_mna (pc' := 212) (n := 16) (k := 83) dX12_init_208 cl_X12_26 ar_int (b := 0) (by decide +kernel) (by decide +kernel) (fun j hj => hz1 _ (by omega)) rfl rfl rfl rfl rfl rfl rfl rfl ?_
  refine ax_putR (pc' := 215) (tm := [none, none, none, none, none, none, none, none, none, some (.ref 70), some (.ref 71), some (.ref 72), some (.ref 73), some (.ref 74), some (.ref 81), some (.ref 88), some (.ref 101), some (.ref 115), some (.ref 126), none, none, some (.ref 137), some (.ref 298), some (.ref 459), some (.ref 466), some (.ref 473), some (.ref 474), some (.ref 475), none, some (.ref 556), some (.ref 557), some (.ref 558), some Value.null, some Value.null, none, none, none, none, none, none, none, some Value.null, some Value.null, some Value.null, some Value.null, some Value.null, none]) dX12_init_212 fp_X12_76 rfl (fun _ => rfl) (fun _ => rfl) (by decide +kernel) rfl rfl rfl ?_
  refine ax_aload_n (pc' := 216) dX12_init_215 rfl rfl ?_
  refine ax_iconst (pc' := 217) (v := (3 : Int32)) dX12_init_216 (by decide) rfl ?_
  refine ax_sipush (pc' := 220) (v := (1412 : Int32)) dX12_init_217 (by decide) rfl ?_
  refine ax_mna (pc' := 224) (n := 3) (k := 1412) dX12_init_220 cl_X12_26 ar_int (b := 0) (by decide +kernel) (by decide +kernel) (fun j hj => hz1 _ (by omega)) rfl rfl rfl rfl rfl rfl rfl rfl ?_
  refine ax_putR (pc' := 227) (tm := [none, none, none, none, none, none, none, none, none, some (.ref 70), some (.ref 71), some (.ref 72), some (.ref 73), some (.ref 74), some (.ref 81), some (.ref 88), some (.ref 101), some (.ref 115), some (.ref 126), none, none, some (.ref 137), some (.ref 298), some (.ref 459), some (.ref 466), some (.ref 473), some (.ref 474), some (.ref 475), none, some (.ref 556), some (.ref 557), some (.ref 558), some (.ref 559), some Value.null, none, none, none, none, none, none, none, some Value.null, some Value.null, some Value.null, some Value.null, some Value.null, none]) dX12_init_224 fp_X12_79 rfl (fun _ => rfl) (fun _ => rfl) (by decide +kernel) rfl rfl rfl ?_
  refine ax_aload_n (pc' := 228) dX12_init_227 rfl rfl ?_
  refine ax_bipush (pc' := 230) (v := (6 : Int32)) dX12_init_228 (by decide) rfl ?_
  refine ax_newI (pc' := 232) (b := 0) (n := 6) dX12_init_230 ar_int (by decide +kernel) (hz1 580 (by decide)) rfl rfl rfl rfl rfl rfl ?_
  refine ax_putR (pc' := 235) (tm := [none, none, none, none, none, none, none, none, none, some (.ref 70), some (.ref 71), some (.ref 72), some (.ref 73), some (.ref 74), some (.ref 81), some (.ref 88), some (.ref 101), some (.ref 115), some (.ref 126), none, none, some (.ref 137), some (.ref 298), some (.ref 459), some (.ref 466), some (.ref 473), some (.ref 474), some (.ref 475), none, some (.ref 556), some (.ref 557), some (.ref 558), some (.ref 559), some (.ref 576), none, none, none, none, none, none, none, some Value.null, some Value.null, some Value.null, some Value.null, some Value.null, none]) dX12_init_232 fp_X12_82 rfl (fun _ => rfl) (fun _ => rfl) (by decide +kernel) rfl rfl rfl ?_
  refine ax_aload_n (pc' := 236) dX12_init_235 rfl rfl ?_
  refine ax_bipush (pc' := 238) (v := (13 : Int32)) dX12_init_236 (by decide) rfl ?_
  refine ax_newI (pc' := 240) (b := 0) (n := 13) dX12_init_238 ar_int (by decide +kernel) (hz1 581 (by decide)) rfl rfl rfl rfl rfl rfl ?_
  refine ax_putR (pc' := 243) (tm := [none, none, none, none, none, none, none, none, none, some (.ref 70), some (.ref 71), some (.ref 72), some (.ref 73), some (.ref 74), some (.ref 81), some (.ref 88), some (.ref 101), some (.ref 115), some (.ref 126), none, none, some (.ref 137), some (.ref 298), some (.ref 459), some (.ref 466), some (.ref 473), some (.ref 474), some (.ref 475), none, some (.ref 556), some (.ref 557), some (.ref 558), some (.ref 559), some (.ref 576), none, none, none, none, none, none, none, some (.ref 580), some Value.null, some Value.null, some Value.null, some Value.null, none]) dX12_init_240 fp_X12_85 rfl (fun _ => rfl) (fun _ => rfl) (by decide +kernel) rfl rfl rfl ?_
  refine ax_aload_n (pc' := 244) dX12_init_243 rfl rfl ?_
  refine ax_bipush (pc' := 246) (v := (100 : Int32)) dX12_init_244 (by decide) rfl ?_
  refine ax_newI (pc' := 248) (b := 0) (n := 100) dX12_init_246 ar_int (by decide +kernel) (hz1 582 (by decide)) rfl rfl rfl rfl rfl rfl ?_
  refine ax_putR (pc' := 251) (tm := [none, none, none, none, none, none, none, none, none, some (.ref 70), some (.ref 71), some (.ref 72), some (.ref 73), some (.ref 74), some (.ref 81), some (.ref 88), some (.ref 101), some (.ref 115), some (.ref 126), none, none, some (.ref 137), some (.ref 298), some (.ref 459), some (.ref 466), some (.ref 473), some (.ref 474), some (.ref 475), none, some (.ref 556), some (.ref 557), some (.ref 558), some (.ref 559), some (.ref 576), none, none, none, none, none, none, none, some (.ref 580), some (.ref 581), some Value.null, some Value.null, some Value.null, none]) dX12_init_248 fp_X12_88 rfl (fun _ => rfl) (fun _ => rfl) (by decide +kernel) rfl rfl rfl ?_
  refine ax_aload_n (pc' := 252) dX12_init_251 rfl rfl ?_
  refine ax_bipush (pc' := 254) (v := (6 : Int32)) dX12_init_252 (by decide) rfl ?_
  refine ax_newI (pc' := 256) (b := 0) (n := 6) dX12_init_254 ar_int (by decide +kernel) (hz1 583 (by decide)) rfl rfl rfl rfl rfl rfl ?_
  refine ax_putR (pc' := 259) (tm := [none, none, none, none, none, none, none, none, none, some (.ref 70), some (.ref 71), some (.ref 72), some (.ref 73), some (.ref 74), some (.ref 81), some (.ref 88), some (.ref 101), some (.ref 115), some (.ref 126), none, none, some (.ref 137), some (.ref 298), some (.ref 459), some (.ref 466), some (.ref 473), some (.ref 474), some (.ref 475), none, some (.ref 556), some (.ref 557), some (.ref 558), some (.ref 559), some (.ref 576), none, none, none, none, none, none, none, some (.ref 580), some (.ref 581), some (.ref 582), some Value.null, some Value.null, none]) dX12_init_256 fp_X12_91 rfl (fun _ => rfl) (fun _ => rfl) (by decide +kernel) rfl rfl rfl ?_
  refine ax_aload_n (pc' := 260) dX12_init_259 rfl rfl ?_
  refine ax_bipush (pc' := 262) (v := (14 : Int32)) dX12_init_260 (by decide) rfl ?_
  refine ax_newL (pc' := 264) (b := 0) (n := 14) dX12_init_262 ar_long (by decide +kernel) hT rfl rfl rfl rfl rfl rfl ?_
  refine ax_putR (pc' := 267) (tm := [none, none, none, none, none, none, none, none, none, some (.ref 70), some (.ref 71), some (.ref 72), some (.ref 73), some (.ref 74), some (.ref 81), some (.ref 88), some (.ref 101), some (.ref 115), some (.ref 126), none, none, some (.ref 137), some (.ref 298), some (.ref 459), some (.ref 466), some (.ref 473), some (.ref 474), some (.ref 475), none, some (.ref 556), some (.ref 557), some (.ref 558), some (.ref 559), some (.ref 576), none, none, none, none, none, none, none, some (.ref 580), some (.ref 581), some (.ref 582), some (.ref 583), some Value.null, none]) dX12_init_264 fp_X12_94 rfl (fun _ => rfl) (fun _ => rfl) (by decide +kernel) rfl rfl rfl ?_
  refine ax_aload_n (pc' := 268) dX12_init_267 rfl rfl ?_
  refine ax_same (sh' := SH) (by decide +kernel) ?_
  refine ay_V0 (pc' := 271) (ce' := 515) (sl' := 8314) (mc2 := 0) (ms2 := 0) (I2 := i_X12_tellsNothing) dX12_init_268 ml_X12_98 sh_69 (by decide) rfl rfl rfl rfl rfl rfl rfl rfl rfl (ac_M.imp (q_X12_tellsNothing _ H) ?_)
  rintro _ _ ⟨s268, rfl, rfl, H⟩
  refine ax_aload_n (pc' := 272) dX12_init_271 rfl rfl ?_
  refine ay_V0 (pc' := 275) (ce' := 515) (sl' := 8314) (mc2 := 0) (ms2 := 0) (I2 := i_X12_beginsAnew) dX12_init_272 ml_X12_101 sh_69 (by decide) rfl rfl rfl rfl rfl rfl rfl rfl rfl (ac_M.imp (q_X12_beginsAnew _ H) ?_)
  rintro _ _ ⟨s272, rfl, rfl, H⟩
  exact ax_vret dX12_init_275 rfl rfl rfl H
