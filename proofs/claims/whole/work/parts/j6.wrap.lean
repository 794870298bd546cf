/-! THE LAW'S OWN WRAPPERS: a question that may be refused, its answer put into a row of longs -/
def lwQ (τ : Nat → Nat → Int64) (T : String → Int32 → Prop) (Q : Int32 → ac_m → Prop) (X : String → ac_m → Prop) : ac_O → ac_W → Prop := fun o w => (∃ (r : Int32) (s : ac_m), o = .inl (some (.int 0)) ∧ w = (false, 586, SH, s, ac_uL τ 585 0 r.toInt64) ∧ Q r s) ∨ ∃ (E : String) (c : Int32) (s : ac_m), o = .inl (some (.int c)) ∧ w = (false, 586, SH, s, τ) ∧ T E c ∧ X E s
def lwL (τ : Nat → Nat → Int64) (T : String → Int32 → Prop) (Q : Int64 → ac_m → Prop) (X : String → ac_m → Prop) : ac_O → ac_W → Prop := fun o w => (∃ (r : Int64) (s : ac_m), o = .inl (some (.int 0)) ∧ w = (false, 586, SH, s, ac_uL τ 585 0 r) ∧ Q r s) ∨ ∃ (E : String) (c : Int32) (s : ac_m), o = .inl (some (.int c)) ∧ w = (false, 586, SH, s, τ) ∧ T E c ∧ X E s
theorem cw_A : ac_Cw RL 13 "java/lang/IllegalArgumentException" := ⟨by decide, ac_at 670 (by decide +kernel) (by decide +kernel), List.mem_of_getElem? (i := 685) (by decide +kernel), by decide +kernel, by decide +kernel⟩
theorem cw_N : ac_Cw RL 31 "java/util/NoSuchElementException" := ⟨by decide, ac_at 1130 (by decide +kernel) (by decide +kernel), List.mem_of_getElem? (i := 1145) (by decide +kernel), by decide +kernel, by decide +kernel⟩
theorem o_L_hills {g : ac_G} {τ : Nat → Nat → Int64} (d : Nat) (p1 : Int32) {Q : Int32 → ac_m → Prop} {X : String → ac_m → Prop} {s : ac_m} (H : w_X11_hills p1 Q X s) : ac_M g i_L_hills (d + 8) 1 6 [.ref 0, .int p1, .ref 585] (false, 586, SH, s, τ) (lwQ τ thA Q X) := by
  refine ac_ofX (L0 := [some (.ref 0), some (.int p1), some (.ref 585), none]) (by decide +kernel) rfl rfl rfl ?_
  refine ax_aload_n (pc' := 1) dL_hills_0 rfl rfl ?_
  refine ax_iconst (pc' := 2) (v := (0 : Int32)) dL_hills_1 (by decide) rfl ?_
  refine ax_aload_n (pc' := 3) dL_hills_2 rfl rfl ?_
  refine ax_iload_n (pc' := 4) dL_hills_3 rfl rfl ?_
  refine ax_try1 (a := 0) (As := [.int p1]) (S := [.int 0, .ref 585]) (hp := 13) (C := "java/lang/IllegalArgumentException") (mc2 := 1) (ms2 := 6) (I2 := i_X11_hills) rfl dL_hills_4 ml_L_7 sh_0 (by decide) rfl rfl rfl rfl rfl cw_A ⟨3, Or.inl ⟨3, rfl, dL_hills_12, rfl⟩, by decide, rfl, fun j u h1 h2 => by obtain rfl : j = 2 := (by omega); cases h2; decide⟩ rfl rfl rfl (ac_M.imp (o_X11_hills _ p1 (ee_hills H)) ?_)
  rintro _ _ (⟨r, s1, rfl, rfl, H⟩ | ⟨E, s1, rfl, rfl, hE, H⟩)
  · show ac_X g i_L_hills (d + 8) 1 6 (lwQ τ thA Q X) (0 + 1) (0 + 6) 7 [some (.ref 0), some (.int p1), some (.ref 585), none] [.int r, .int 0, .ref 585] (false, 586, SH, s1, τ)
    refine ax_i2l (pc' := 8) dL_hills_7 rfl ?_
    refine ax_last (pc' := 9) dL_hills_8 sh_585 (ac_in (by decide)) rfl rfl ?_
    refine ax_goto (tgt := 15) dL_hills_9 (by decide) ?_
    refine ax_iconst (pc' := 16) (v := (0 : Int32)) dL_hills_15 (by decide) rfl ?_
    exact ax_iret dL_hills_16 rfl rfl rfl (Or.inl ⟨r, s1, rfl, rfl, H⟩)
  · subst hE
    refine ⟨rfl, ?_⟩
    show ac_X g i_L_hills (d + 8) 1 6 (lwQ τ thA Q X) (0 + 1) (0 + 6) 13 [some (.ref 0), some (.int p1), some (.ref 585), none] [] (false, 586, SH, s1, τ)
    refine ax_iconst (pc' := 14) (v := (1 : Int32)) dL_hills_13 (by decide) rfl ?_
    exact ax_iret dL_hills_14 rfl rfl rfl (Or.inr ⟨_, _, s1, rfl, rfl, ⟨rfl, rfl⟩, H⟩)
theorem o_L_law {g : ac_G} {τ : Nat → Nat → Int64} (d : Nat) (p1 : Int32) {Q : Int32 → ac_m → Prop} {X : String → ac_m → Prop} {s : ac_m} (H : w_X11_law p1 Q X s) : ac_M g i_L_law (d + 67) 1 6 [.ref 0, .int p1, .ref 585] (false, 586, SH, s, τ) (lwQ τ thA Q X) := by
  refine ac_ofX (L0 := [some (.ref 0), some (.int p1), some (.ref 585), none]) (by decide +kernel) rfl rfl rfl ?_
  refine ax_aload_n (pc' := 1) dL_law_0 rfl rfl ?_
  refine ax_iconst (pc' := 2) (v := (0 : Int32)) dL_law_1 (by decide) rfl ?_
  refine ax_aload_n (pc' := 3) dL_law_2 rfl rfl ?_
  refine ax_iload_n (pc' := 4) dL_law_3 rfl rfl ?_
  refine ax_try1 (a := 0) (As := [.int p1]) (S := [.int 0, .ref 585]) (hp := 13) (C := "java/lang/IllegalArgumentException") (mc2 := 1) (ms2 := 6) (I2 := i_X11_law) rfl dL_law_4 ml_L_15 sh_0 (by decide) rfl rfl rfl rfl rfl cw_A ⟨3, Or.inl ⟨3, rfl, dL_law_12, rfl⟩, by decide, rfl, fun j u h1 h2 => by obtain rfl : j = 2 := (by omega); cases h2; decide⟩ rfl rfl rfl (ac_M.imp (o_X11_law _ p1 (ee_law H)) ?_)
  rintro _ _ (⟨r, s1, rfl, rfl, H⟩ | ⟨E, s1, rfl, rfl, hE, H⟩)
  · show ac_X g i_L_law (d + 67) 1 6 (lwQ τ thA Q X) (0 + 1) (0 + 6) 7 [some (.ref 0), some (.int p1), some (.ref 585), none] [.int r, .int 0, .ref 585] (false, 586, SH, s1, τ)
    refine ax_i2l (pc' := 8) dL_law_7 rfl ?_
    refine ax_last (pc' := 9) dL_law_8 sh_585 (ac_in (by decide)) rfl rfl ?_
    refine ax_goto (tgt := 15) dL_law_9 (by decide) ?_
    refine ax_iconst (pc' := 16) (v := (0 : Int32)) dL_law_15 (by decide) rfl ?_
    exact ax_iret dL_law_16 rfl rfl rfl (Or.inl ⟨r, s1, rfl, rfl, H⟩)
  · subst hE
    refine ⟨rfl, ?_⟩
    show ac_X g i_L_law (d + 67) 1 6 (lwQ τ thA Q X) (0 + 1) (0 + 6) 13 [some (.ref 0), some (.int p1), some (.ref 585), none] [] (false, 586, SH, s1, τ)
    refine ax_iconst (pc' := 14) (v := (1 : Int32)) dL_law_13 (by decide) rfl ?_
    exact ax_iret dL_law_14 rfl rfl rfl (Or.inr ⟨_, _, s1, rfl, rfl, ⟨rfl, rfl⟩, H⟩)
theorem o_L_work {g : ac_G} {τ : Nat → Nat → Int64} (d : Nat) (p1 : Int32) {Q : Int32 → ac_m → Prop} {X : String → ac_m → Prop} {s : ac_m} (H : w_X11_work p1 Q X s) : ac_M g i_L_work (d + 51) 1 6 [.ref 0, .int p1, .ref 585] (false, 586, SH, s, τ) (lwQ τ thA Q X) := by
  refine ac_ofX (L0 := [some (.ref 0), some (.int p1), some (.ref 585), none]) (by decide +kernel) rfl rfl rfl ?_
  refine ax_aload_n (pc' := 1) dL_work_0 rfl rfl ?_
  refine ax_iconst (pc' := 2) (v := (0 : Int32)) dL_work_1 (by decide) rfl ?_
  refine ax_aload_n (pc' := 3) dL_work_2 rfl rfl ?_
  refine ax_iload_n (pc' := 4) dL_work_3 rfl rfl ?_
  refine ax_try1 (a := 0) (As := [.int p1]) (S := [.int 0, .ref 585]) (hp := 13) (C := "java/lang/IllegalArgumentException") (mc2 := 1) (ms2 := 6) (I2 := i_X11_work) rfl dL_work_4 ml_L_18 sh_0 (by decide) rfl rfl rfl rfl rfl cw_A ⟨3, Or.inl ⟨3, rfl, dL_work_12, rfl⟩, by decide, rfl, fun j u h1 h2 => by obtain rfl : j = 2 := (by omega); cases h2; decide⟩ rfl rfl rfl (ac_M.imp (o_X11_work _ p1 (ee_work H)) ?_)
  rintro _ _ (⟨r, s1, rfl, rfl, H⟩ | ⟨E, s1, rfl, rfl, hE, H⟩)
  · show ac_X g i_L_work (d + 51) 1 6 (lwQ τ thA Q X) (0 + 1) (0 + 6) 7 [some (.ref 0), some (.int p1), some (.ref 585), none] [.int r, .int 0, .ref 585] (false, 586, SH, s1, τ)
    refine ax_i2l (pc' := 8) dL_work_7 rfl ?_
    refine ax_last (pc' := 9) dL_work_8 sh_585 (ac_in (by decide)) rfl rfl ?_
    refine ax_goto (tgt := 15) dL_work_9 (by decide) ?_
    refine ax_iconst (pc' := 16) (v := (0 : Int32)) dL_work_15 (by decide) rfl ?_
    exact ax_iret dL_work_16 rfl rfl rfl (Or.inl ⟨r, s1, rfl, rfl, H⟩)
  · subst hE
    refine ⟨rfl, ?_⟩
    show ac_X g i_L_work (d + 51) 1 6 (lwQ τ thA Q X) (0 + 1) (0 + 6) 13 [some (.ref 0), some (.int p1), some (.ref 585), none] [] (false, 586, SH, s1, τ)
    refine ax_iconst (pc' := 14) (v := (1 : Int32)) dL_work_13 (by decide) rfl ?_
    exact ax_iret dL_work_14 rfl rfl rfl (Or.inr ⟨_, _, s1, rfl, rfl, ⟨rfl, rfl⟩, H⟩)
theorem o_L_book {g : ac_G} {τ : Nat → Nat → Int64} (d : Nat) (p1 : Int32) {Q : Int32 → ac_m → Prop} {X : String → ac_m → Prop} {s : ac_m} (H : w_X11_book p1 Q X s) : ac_M g i_L_book (d + 6) 1 6 [.ref 0, .int p1, .ref 585] (false, 586, SH, s, τ) (lwQ τ thA Q X) := by
  refine ac_ofX (L0 := [some (.ref 0), some (.int p1), some (.ref 585), none]) (by decide +kernel) rfl rfl rfl ?_
  refine ax_aload_n (pc' := 1) dL_book_0 rfl rfl ?_
  refine ax_iconst (pc' := 2) (v := (0 : Int32)) dL_book_1 (by decide) rfl ?_
  refine ax_aload_n (pc' := 3) dL_book_2 rfl rfl ?_
  refine ax_iload_n (pc' := 4) dL_book_3 rfl rfl ?_
  refine ax_try1 (a := 0) (As := [.int p1]) (S := [.int 0, .ref 585]) (hp := 13) (C := "java/lang/IllegalArgumentException") (mc2 := 1) (ms2 := 6) (I2 := i_X11_book) rfl dL_book_4 ml_L_21 sh_0 (by decide) rfl rfl rfl rfl rfl cw_A ⟨3, Or.inl ⟨3, rfl, dL_book_12, rfl⟩, by decide, rfl, fun j u h1 h2 => by obtain rfl : j = 2 := (by omega); cases h2; decide⟩ rfl rfl rfl (ac_M.imp (o_X11_book _ p1 (ee_book H)) ?_)
  rintro _ _ (⟨r, s1, rfl, rfl, H⟩ | ⟨E, s1, rfl, rfl, hE, H⟩)
  · show ac_X g i_L_book (d + 6) 1 6 (lwQ τ thA Q X) (0 + 1) (0 + 6) 7 [some (.ref 0), some (.int p1), some (.ref 585), none] [.int r, .int 0, .ref 585] (false, 586, SH, s1, τ)
    refine ax_i2l (pc' := 8) dL_book_7 rfl ?_
    refine ax_last (pc' := 9) dL_book_8 sh_585 (ac_in (by decide)) rfl rfl ?_
    refine ax_goto (tgt := 15) dL_book_9 (by decide) ?_
    refine ax_iconst (pc' := 16) (v := (0 : Int32)) dL_book_15 (by decide) rfl ?_
    exact ax_iret dL_book_16 rfl rfl rfl (Or.inl ⟨r, s1, rfl, rfl, H⟩)
  · subst hE
    refine ⟨rfl, ?_⟩
    show ac_X g i_L_book (d + 6) 1 6 (lwQ τ thA Q X) (0 + 1) (0 + 6) 13 [some (.ref 0), some (.int p1), some (.ref 585), none] [] (false, 586, SH, s1, τ)
    refine ax_iconst (pc' := 14) (v := (1 : Int32)) dL_book_13 (by decide) rfl ?_
    exact ax_iret dL_book_14 rfl rfl rfl (Or.inr ⟨_, _, s1, rfl, rfl, ⟨rfl, rfl⟩, H⟩)
theorem o_L_told {g : ac_G} {τ : Nat → Nat → Int64} (d : Nat) (p1 : Int32) {Q : Int32 → ac_m → Prop} {X : String → ac_m → Prop} {s : ac_m} (H : w_X11_told p1 Q X s) : ac_M g i_L_told (d + 6) 1 6 [.ref 0, .int p1, .ref 585] (false, 586, SH, s, τ) (lwQ τ thA Q X) := by
  refine ac_ofX (L0 := [some (.ref 0), some (.int p1), some (.ref 585), none]) (by decide +kernel) rfl rfl rfl ?_
  refine ax_aload_n (pc' := 1) dL_told_0 rfl rfl ?_
  refine ax_iconst (pc' := 2) (v := (0 : Int32)) dL_told_1 (by decide) rfl ?_
  refine ax_aload_n (pc' := 3) dL_told_2 rfl rfl ?_
  refine ax_iload_n (pc' := 4) dL_told_3 rfl rfl ?_
  refine ax_try1 (a := 0) (As := [.int p1]) (S := [.int 0, .ref 585]) (hp := 13) (C := "java/lang/IllegalArgumentException") (mc2 := 1) (ms2 := 6) (I2 := i_X11_told) rfl dL_told_4 ml_L_24 sh_0 (by decide) rfl rfl rfl rfl rfl cw_A ⟨3, Or.inl ⟨3, rfl, dL_told_12, rfl⟩, by decide, rfl, fun j u h1 h2 => by obtain rfl : j = 2 := (by omega); cases h2; decide⟩ rfl rfl rfl (ac_M.imp (o_X11_told _ p1 (ee_told H)) ?_)
  rintro _ _ (⟨r, s1, rfl, rfl, H⟩ | ⟨E, s1, rfl, rfl, hE, H⟩)
  · show ac_X g i_L_told (d + 6) 1 6 (lwQ τ thA Q X) (0 + 1) (0 + 6) 7 [some (.ref 0), some (.int p1), some (.ref 585), none] [.int r, .int 0, .ref 585] (false, 586, SH, s1, τ)
    refine ax_i2l (pc' := 8) dL_told_7 rfl ?_
    refine ax_last (pc' := 9) dL_told_8 sh_585 (ac_in (by decide)) rfl rfl ?_
    refine ax_goto (tgt := 15) dL_told_9 (by decide) ?_
    refine ax_iconst (pc' := 16) (v := (0 : Int32)) dL_told_15 (by decide) rfl ?_
    exact ax_iret dL_told_16 rfl rfl rfl (Or.inl ⟨r, s1, rfl, rfl, H⟩)
  · subst hE
    refine ⟨rfl, ?_⟩
    show ac_X g i_L_told (d + 6) 1 6 (lwQ τ thA Q X) (0 + 1) (0 + 6) 13 [some (.ref 0), some (.int p1), some (.ref 585), none] [] (false, 586, SH, s1, τ)
    refine ax_iconst (pc' := 14) (v := (1 : Int32)) dL_told_13 (by decide) rfl ?_
    exact ax_iret dL_told_14 rfl rfl rfl (Or.inr ⟨_, _, s1, rfl, rfl, ⟨rfl, rfl⟩, H⟩)
theorem o_L_folk {g : ac_G} {τ : Nat → Nat → Int64} (d : Nat) (p1 : Int32) (p2 : Int32) {Q : Int32 → ac_m → Prop} {X : String → ac_m → Prop} {s : ac_m} (H : w_X11_folk p1 p2 Q X s) : ac_M g i_L_folk (d + 6) 2 12 [.ref 0, .int p1, .int p2, .ref 585] (false, 586, SH, s, τ) (lwQ τ thB Q X) := by
  refine ac_ofX (L0 := [some (.ref 0), some (.int p1), some (.int p2), some (.ref 585), none]) (by decide +kernel) rfl rfl rfl ?_
  refine ax_aload_n (pc' := 1) dL_folk_0 rfl rfl ?_
  refine ax_iconst (pc' := 2) (v := (0 : Int32)) dL_folk_1 (by decide) rfl ?_
  refine ax_aload_n (pc' := 3) dL_folk_2 rfl rfl ?_
  refine ax_iload_n (pc' := 4) dL_folk_3 rfl rfl ?_
  refine ax_iload_n (pc' := 5) dL_folk_4 rfl rfl ?_
  refine ax_try2 (a := 0) (As := [.int p1, .int p2]) (S := [.int 0, .ref 585]) (hp1 := 15) (hp2 := 19) (mc2 := 2) (ms2 := 12) (I2 := i_X11_folk) rfl dL_folk_5 ml_L_27 sh_0 (by decide) rfl rfl rfl rfl rfl cw_N cw_A ⟨4, Or.inr ⟨dL_folk_13, rfl⟩, by decide, rfl, fun j u h1 h2 => by obtain rfl : j = 3 := (by omega); cases h2; decide⟩ ⟨4, Or.inr ⟨dL_folk_17, rfl⟩, by decide, rfl, fun j u h1 h2 => by obtain rfl : j = 3 := (by omega); cases h2; decide⟩ rfl rfl rfl (ac_M.imp (o_X11_folk _ p1 p2 (ee_folk H)) ?_)
  rintro _ _ (⟨r, s1, rfl, rfl, H⟩ | ⟨E, s1, rfl, rfl, hE, H⟩)
  · show ac_X g i_L_folk (d + 6) 2 12 (lwQ τ thB Q X) (0 + 2) (0 + 12) 8 [some (.ref 0), some (.int p1), some (.int p2), some (.ref 585), none] [.int r, .int 0, .ref 585] (false, 586, SH, s1, τ)
    refine ax_i2l (pc' := 9) dL_folk_8 rfl ?_
    refine ax_last (pc' := 10) dL_folk_9 sh_585 (ac_in (by decide)) rfl rfl ?_
    refine ax_goto (tgt := 21) dL_folk_10 (by decide) ?_
    refine ax_iconst (pc' := 22) (v := (0 : Int32)) dL_folk_21 (by decide) rfl ?_
    exact ax_iret dL_folk_22 rfl rfl rfl (Or.inl ⟨r, s1, rfl, rfl, H⟩)
  · rcases hE with rfl | rfl
    · refine Or.inl ⟨rfl, ?_⟩
      show ac_X g i_L_folk (d + 6) 2 12 (lwQ τ thB Q X) (0 + 2) (0 + 12) 15 [some (.ref 0), some (.int p1), some (.int p2), some (.ref 585), none] [] (false, 586, SH, s1, τ)
      refine ax_iconst (pc' := 16) (v := (1 : Int32)) dL_folk_15 (by decide) rfl ?_
      exact ax_iret dL_folk_16 rfl rfl rfl (Or.inr ⟨_, _, s1, rfl, rfl, Or.inl ⟨rfl, rfl⟩, H⟩)
    · refine Or.inr ⟨rfl, ?_⟩
      show ac_X g i_L_folk (d + 6) 2 12 (lwQ τ thB Q X) (0 + 2) (0 + 12) 19 [some (.ref 0), some (.int p1), some (.int p2), some (.ref 585), none] [] (false, 586, SH, s1, τ)
      refine ax_iconst (pc' := 20) (v := (2 : Int32)) dL_folk_19 (by decide) rfl ?_
      exact ax_iret dL_folk_20 rfl rfl rfl (Or.inr ⟨_, _, s1, rfl, rfl, Or.inr ⟨rfl, rfl⟩, H⟩)
theorem o_L_beast {g : ac_G} {τ : Nat → Nat → Int64} (d : Nat) (p1 : Int32) (p2 : Int32) {Q : Int32 → ac_m → Prop} {X : String → ac_m → Prop} {s : ac_m} (H : w_X11_beast p1 p2 Q X s) : ac_M g i_L_beast (d + 6) 2 12 [.ref 0, .int p1, .int p2, .ref 585] (false, 586, SH, s, τ) (lwQ τ thB Q X) := by
  refine ac_ofX (L0 := [some (.ref 0), some (.int p1), some (.int p2), some (.ref 585), none]) (by decide +kernel) rfl rfl rfl ?_
  refine ax_aload_n (pc' := 1) dL_beast_0 rfl rfl ?_
  refine ax_iconst (pc' := 2) (v := (0 : Int32)) dL_beast_1 (by decide) rfl ?_
  refine ax_aload_n (pc' := 3) dL_beast_2 rfl rfl ?_
  refine ax_iload_n (pc' := 4) dL_beast_3 rfl rfl ?_
  refine ax_iload_n (pc' := 5) dL_beast_4 rfl rfl ?_
  refine ax_try2 (a := 0) (As := [.int p1, .int p2]) (S := [.int 0, .ref 585]) (hp1 := 15) (hp2 := 19) (mc2 := 2) (ms2 := 12) (I2 := i_X11_beast) rfl dL_beast_5 ml_L_33 sh_0 (by decide) rfl rfl rfl rfl rfl cw_N cw_A ⟨4, Or.inr ⟨dL_beast_13, rfl⟩, by decide, rfl, fun j u h1 h2 => by obtain rfl : j = 3 := (by omega); cases h2; decide⟩ ⟨4, Or.inr ⟨dL_beast_17, rfl⟩, by decide, rfl, fun j u h1 h2 => by obtain rfl : j = 3 := (by omega); cases h2; decide⟩ rfl rfl rfl (ac_M.imp (o_X11_beast _ p1 p2 (ee_beast H)) ?_)
  rintro _ _ (⟨r, s1, rfl, rfl, H⟩ | ⟨E, s1, rfl, rfl, hE, H⟩)
  · show ac_X g i_L_beast (d + 6) 2 12 (lwQ τ thB Q X) (0 + 2) (0 + 12) 8 [some (.ref 0), some (.int p1), some (.int p2), some (.ref 585), none] [.int r, .int 0, .ref 585] (false, 586, SH, s1, τ)
    refine ax_i2l (pc' := 9) dL_beast_8 rfl ?_
    refine ax_last (pc' := 10) dL_beast_9 sh_585 (ac_in (by decide)) rfl rfl ?_
    refine ax_goto (tgt := 21) dL_beast_10 (by decide) ?_
    refine ax_iconst (pc' := 22) (v := (0 : Int32)) dL_beast_21 (by decide) rfl ?_
    exact ax_iret dL_beast_22 rfl rfl rfl (Or.inl ⟨r, s1, rfl, rfl, H⟩)
  · rcases hE with rfl | rfl
    · refine Or.inl ⟨rfl, ?_⟩
      show ac_X g i_L_beast (d + 6) 2 12 (lwQ τ thB Q X) (0 + 2) (0 + 12) 15 [some (.ref 0), some (.int p1), some (.int p2), some (.ref 585), none] [] (false, 586, SH, s1, τ)
      refine ax_iconst (pc' := 16) (v := (1 : Int32)) dL_beast_15 (by decide) rfl ?_
      exact ax_iret dL_beast_16 rfl rfl rfl (Or.inr ⟨_, _, s1, rfl, rfl, Or.inl ⟨rfl, rfl⟩, H⟩)
    · refine Or.inr ⟨rfl, ?_⟩
      show ac_X g i_L_beast (d + 6) 2 12 (lwQ τ thB Q X) (0 + 2) (0 + 12) 19 [some (.ref 0), some (.int p1), some (.int p2), some (.ref 585), none] [] (false, 586, SH, s1, τ)
      refine ax_iconst (pc' := 20) (v := (2 : Int32)) dL_beast_19 (by decide) rfl ?_
      exact ax_iret dL_beast_20 rfl rfl rfl (Or.inr ⟨_, _, s1, rfl, rfl, Or.inr ⟨rfl, rfl⟩, H⟩)
theorem o_L_fair {g : ac_G} {τ : Nat → Nat → Int64} (d : Nat) (p1 : Int32) (p2 : Int32) {Q : Int32 → ac_m → Prop} {X : String → ac_m → Prop} {s : ac_m} (H : w_X11_fair p1 p2 Q X s) : ac_M g i_L_fair (d + 3) 2 12 [.ref 0, .int p1, .int p2, .ref 585] (false, 586, SH, s, τ) (lwQ τ thB Q X) := by
  refine ac_ofX (L0 := [some (.ref 0), some (.int p1), some (.int p2), some (.ref 585), none]) (by decide +kernel) rfl rfl rfl ?_
  refine ax_aload_n (pc' := 1) dL_fair_0 rfl rfl ?_
  refine ax_iconst (pc' := 2) (v := (0 : Int32)) dL_fair_1 (by decide) rfl ?_
  refine ax_aload_n (pc' := 3) dL_fair_2 rfl rfl ?_
  refine ax_iload_n (pc' := 4) dL_fair_3 rfl rfl ?_
  refine ax_iload_n (pc' := 5) dL_fair_4 rfl rfl ?_
  refine ax_try2 (a := 0) (As := [.int p1, .int p2]) (S := [.int 0, .ref 585]) (hp1 := 15) (hp2 := 19) (mc2 := 2) (ms2 := 12) (I2 := i_X11_fair) rfl dL_fair_5 ml_L_36 sh_0 (by decide) rfl rfl rfl rfl rfl cw_N cw_A ⟨4, Or.inr ⟨dL_fair_13, rfl⟩, by decide, rfl, fun j u h1 h2 => by obtain rfl : j = 3 := (by omega); cases h2; decide⟩ ⟨4, Or.inr ⟨dL_fair_17, rfl⟩, by decide, rfl, fun j u h1 h2 => by obtain rfl : j = 3 := (by omega); cases h2; decide⟩ rfl rfl rfl (ac_M.imp (o_X11_fair _ p1 p2 (ee_fair H)) ?_)
  rintro _ _ (⟨r, s1, rfl, rfl, H⟩ | ⟨E, s1, rfl, rfl, hE, H⟩)
  · show ac_X g i_L_fair (d + 3) 2 12 (lwQ τ thB Q X) (0 + 2) (0 + 12) 8 [some (.ref 0), some (.int p1), some (.int p2), some (.ref 585), none] [.int r, .int 0, .ref 585] (false, 586, SH, s1, τ)
    refine ax_i2l (pc' := 9) dL_fair_8 rfl ?_
    refine ax_last (pc' := 10) dL_fair_9 sh_585 (ac_in (by decide)) rfl rfl ?_
    refine ax_goto (tgt := 21) dL_fair_10 (by decide) ?_
    refine ax_iconst (pc' := 22) (v := (0 : Int32)) dL_fair_21 (by decide) rfl ?_
    exact ax_iret dL_fair_22 rfl rfl rfl (Or.inl ⟨r, s1, rfl, rfl, H⟩)
  · rcases hE with rfl | rfl
    · refine Or.inl ⟨rfl, ?_⟩
      show ac_X g i_L_fair (d + 3) 2 12 (lwQ τ thB Q X) (0 + 2) (0 + 12) 15 [some (.ref 0), some (.int p1), some (.int p2), some (.ref 585), none] [] (false, 586, SH, s1, τ)
      refine ax_iconst (pc' := 16) (v := (1 : Int32)) dL_fair_15 (by decide) rfl ?_
      exact ax_iret dL_fair_16 rfl rfl rfl (Or.inr ⟨_, _, s1, rfl, rfl, Or.inl ⟨rfl, rfl⟩, H⟩)
    · refine Or.inr ⟨rfl, ?_⟩
      show ac_X g i_L_fair (d + 3) 2 12 (lwQ τ thB Q X) (0 + 2) (0 + 12) 19 [some (.ref 0), some (.int p1), some (.int p2), some (.ref 585), none] [] (false, 586, SH, s1, τ)
      refine ax_iconst (pc' := 20) (v := (2 : Int32)) dL_fair_19 (by decide) rfl ?_
      exact ax_iret dL_fair_20 rfl rfl rfl (Or.inr ⟨_, _, s1, rfl, rfl, Or.inr ⟨rfl, rfl⟩, H⟩)
theorem o_L_cool {g : ac_G} {τ : Nat → Nat → Int64} (d : Nat) (p1 : Int32) (p2 : Int32) {Q : Int32 → ac_m → Prop} {X : String → ac_m → Prop} {s : ac_m} (H : w_X11_cool p1 p2 Q X s) : ac_M g i_L_cool (d + 3) 2 12 [.ref 0, .int p1, .int p2, .ref 585] (false, 586, SH, s, τ) (lwQ τ thN Q X) := by
  refine ac_ofX (L0 := [some (.ref 0), some (.int p1), some (.int p2), some (.ref 585), none]) (by decide +kernel) rfl rfl rfl ?_
  refine ax_aload_n (pc' := 1) dL_cool_0 rfl rfl ?_
  refine ax_iconst (pc' := 2) (v := (0 : Int32)) dL_cool_1 (by decide) rfl ?_
  refine ax_aload_n (pc' := 3) dL_cool_2 rfl rfl ?_
  refine ax_iload_n (pc' := 4) dL_cool_3 rfl rfl ?_
  refine ax_iload_n (pc' := 5) dL_cool_4 rfl rfl ?_
  refine ax_try1 (a := 0) (As := [.int p1, .int p2]) (S := [.int 0, .ref 585]) (hp := 15) (C := "java/util/NoSuchElementException") (mc2 := 2) (ms2 := 12) (I2 := i_X11_cool) rfl dL_cool_5 ml_L_39 sh_0 (by decide) rfl rfl rfl rfl rfl cw_N ⟨4, Or.inr ⟨dL_cool_13, rfl⟩, by decide, rfl, fun j u h1 h2 => by obtain rfl : j = 3 := (by omega); cases h2; decide⟩ rfl rfl rfl (ac_M.imp (o_X11_cool _ p1 p2 (ee_cool H)) ?_)
  rintro _ _ (⟨r, s1, rfl, rfl, H⟩ | ⟨E, s1, rfl, rfl, hE, H⟩)
  · show ac_X g i_L_cool (d + 3) 2 12 (lwQ τ thN Q X) (0 + 2) (0 + 12) 8 [some (.ref 0), some (.int p1), some (.int p2), some (.ref 585), none] [.int r, .int 0, .ref 585] (false, 586, SH, s1, τ)
    refine ax_i2l (pc' := 9) dL_cool_8 rfl ?_
    refine ax_last (pc' := 10) dL_cool_9 sh_585 (ac_in (by decide)) rfl rfl ?_
    refine ax_goto (tgt := 17) dL_cool_10 (by decide) ?_
    refine ax_iconst (pc' := 18) (v := (0 : Int32)) dL_cool_17 (by decide) rfl ?_
    exact ax_iret dL_cool_18 rfl rfl rfl (Or.inl ⟨r, s1, rfl, rfl, H⟩)
  · subst hE
    refine ⟨rfl, ?_⟩
    show ac_X g i_L_cool (d + 3) 2 12 (lwQ τ thN Q X) (0 + 2) (0 + 12) 15 [some (.ref 0), some (.int p1), some (.int p2), some (.ref 585), none] [] (false, 586, SH, s1, τ)
    refine ax_iconst (pc' := 16) (v := (1 : Int32)) dL_cool_15 (by decide) rfl ?_
    exact ax_iret dL_cool_16 rfl rfl rfl (Or.inr ⟨_, _, s1, rfl, rfl, ⟨rfl, rfl⟩, H⟩)
theorem o_L_would {g : ac_G} {τ : Nat → Nat → Int64} (d : Nat) (p1 : Int32) (p2 : Int32) (p3 : Int32) (p4 : Int32) (p5 : Int32) (p6 : Int32) (p7 : Int32) (p8 : Int32) {Q : Int32 → ac_m → Prop} {X : String → ac_m → Prop} {s : ac_m} (H : w_X11_would p1 p2 p3 p4 p5 p6 p7 p8 Q X s) : ac_M g i_L_would (d + 3) 8 48 [.ref 0, .int p1, .int p2, .int p3, .int p4, .int p5, .int p6, .int p7, .int p8, .ref 585] (false, 586, SH, s, τ) (lwQ τ thA Q X) := by
  refine ac_ofX (L0 := [some (.ref 0), some (.int p1), some (.int p2), some (.int p3), some (.int p4), some (.int p5), some (.int p6), some (.int p7), some (.int p8), some (.ref 585), none]) (by decide +kernel) rfl rfl rfl ?_
  refine ax_aload (pc' := 2) dL_would_0 rfl rfl ?_
  refine ax_iconst (pc' := 3) (v := (0 : Int32)) dL_would_2 (by decide) rfl ?_
  refine ax_aload_n (pc' := 4) dL_would_3 rfl rfl ?_
  refine ax_iload_n (pc' := 5) dL_would_4 rfl rfl ?_
  refine ax_iload_n (pc' := 6) dL_would_5 rfl rfl ?_
  refine ax_iload_n (pc' := 7) dL_would_6 rfl rfl ?_
  refine ax_iload (pc' := 9) dL_would_7 rfl rfl ?_
  refine ax_iload (pc' := 11) dL_would_9 rfl rfl ?_
  refine ax_iload (pc' := 13) dL_would_11 rfl rfl ?_
  refine ax_iload (pc' := 15) dL_would_13 rfl rfl ?_
  refine ax_iload (pc' := 17) dL_would_15 rfl rfl ?_
  refine ax_try1 (a := 0) (As := [.int p1, .int p2, .int p3, .int p4, .int p5, .int p6, .int p7, .int p8]) (S := [.int 0, .ref 585]) (hp := 27) (C := "java/lang/IllegalArgumentException") (mc2 := 8) (ms2 := 48) (I2 := i_X11_would) rfl dL_would_17 ml_L_42 sh_0 (by decide) rfl rfl rfl rfl rfl cw_A ⟨10, Or.inr ⟨dL_would_25, rfl⟩, by decide, rfl, fun j u h1 h2 => by obtain rfl : j = 9 := (by omega); cases h2; decide⟩ rfl rfl rfl (ac_M.imp (o_X11_would _ p1 p2 p3 p4 p5 p6 p7 p8 (ee_would H)) ?_)
  rintro _ _ (⟨r, s1, rfl, rfl, H⟩ | ⟨E, s1, rfl, rfl, hE, H⟩)
  · show ac_X g i_L_would (d + 3) 8 48 (lwQ τ thA Q X) (0 + 8) (0 + 48) 20 [some (.ref 0), some (.int p1), some (.int p2), some (.int p3), some (.int p4), some (.int p5), some (.int p6), some (.int p7), some (.int p8), some (.ref 585), none] [.int r, .int 0, .ref 585] (false, 586, SH, s1, τ)
    refine ax_i2l (pc' := 21) dL_would_20 rfl ?_
    refine ax_last (pc' := 22) dL_would_21 sh_585 (ac_in (by decide)) rfl rfl ?_
    refine ax_goto (tgt := 29) dL_would_22 (by decide) ?_
    refine ax_iconst (pc' := 30) (v := (0 : Int32)) dL_would_29 (by decide) rfl ?_
    exact ax_iret dL_would_30 rfl rfl rfl (Or.inl ⟨r, s1, rfl, rfl, H⟩)
  · subst hE
    refine ⟨rfl, ?_⟩
    show ac_X g i_L_would (d + 3) 8 48 (lwQ τ thA Q X) (0 + 8) (0 + 48) 27 [some (.ref 0), some (.int p1), some (.int p2), some (.int p3), some (.int p4), some (.int p5), some (.int p6), some (.int p7), some (.int p8), some (.ref 585), none] [] (false, 586, SH, s1, τ)
    refine ax_iconst (pc' := 28) (v := (1 : Int32)) dL_would_27 (by decide) rfl ?_
    exact ax_iret dL_would_28 rfl rfl rfl (Or.inr ⟨_, _, s1, rfl, rfl, ⟨rfl, rfl⟩, H⟩)
theorem o_L_ahead {g : ac_G} {τ : Nat → Nat → Int64} (d : Nat) (p1 : Int32) (p2 : Int32) {Q : Int32 → ac_m → Prop} {X : String → ac_m → Prop} {s : ac_m} (H : w_X11_ahead p1 p2 Q X s) : ac_M g i_L_ahead (d + 6) 2 12 [.ref 0, .int p1, .int p2, .ref 585] (false, 586, SH, s, τ) (lwQ τ thA Q X) := by
  refine ac_ofX (L0 := [some (.ref 0), some (.int p1), some (.int p2), some (.ref 585), none]) (by decide +kernel) rfl rfl rfl ?_
  refine ax_aload_n (pc' := 1) dL_ahead_0 rfl rfl ?_
  refine ax_iconst (pc' := 2) (v := (0 : Int32)) dL_ahead_1 (by decide) rfl ?_
  refine ax_aload_n (pc' := 3) dL_ahead_2 rfl rfl ?_
  refine ax_iload_n (pc' := 4) dL_ahead_3 rfl rfl ?_
  refine ax_iload_n (pc' := 5) dL_ahead_4 rfl rfl ?_
  refine ax_try1 (a := 0) (As := [.int p1, .int p2]) (S := [.int 0, .ref 585]) (hp := 15) (C := "java/lang/IllegalArgumentException") (mc2 := 2) (ms2 := 12) (I2 := i_X11_ahead) rfl dL_ahead_5 ml_L_46 sh_0 (by decide) rfl rfl rfl rfl rfl cw_A ⟨4, Or.inr ⟨dL_ahead_13, rfl⟩, by decide, rfl, fun j u h1 h2 => by obtain rfl : j = 3 := (by omega); cases h2; decide⟩ rfl rfl rfl (ac_M.imp (o_X11_ahead _ p1 p2 (ee_ahead H)) ?_)
  rintro _ _ (⟨r, s1, rfl, rfl, H⟩ | ⟨E, s1, rfl, rfl, hE, H⟩)
  · show ac_X g i_L_ahead (d + 6) 2 12 (lwQ τ thA Q X) (0 + 2) (0 + 12) 8 [some (.ref 0), some (.int p1), some (.int p2), some (.ref 585), none] [.int r, .int 0, .ref 585] (false, 586, SH, s1, τ)
    refine ax_i2l (pc' := 9) dL_ahead_8 rfl ?_
    refine ax_last (pc' := 10) dL_ahead_9 sh_585 (ac_in (by decide)) rfl rfl ?_
    refine ax_goto (tgt := 17) dL_ahead_10 (by decide) ?_
    refine ax_iconst (pc' := 18) (v := (0 : Int32)) dL_ahead_17 (by decide) rfl ?_
    exact ax_iret dL_ahead_18 rfl rfl rfl (Or.inl ⟨r, s1, rfl, rfl, H⟩)
  · subst hE
    refine ⟨rfl, ?_⟩
    show ac_X g i_L_ahead (d + 6) 2 12 (lwQ τ thA Q X) (0 + 2) (0 + 12) 15 [some (.ref 0), some (.int p1), some (.int p2), some (.ref 585), none] [] (false, 586, SH, s1, τ)
    refine ax_iconst (pc' := 16) (v := (1 : Int32)) dL_ahead_15 (by decide) rfl ?_
    exact ax_iret dL_ahead_16 rfl rfl rfl (Or.inr ⟨_, _, s1, rfl, rfl, ⟨rfl, rfl⟩, H⟩)
theorem o_L_bare {g : ac_G} {τ : Nat → Nat → Int64} (d : Nat) (p1 : Int32) {Q : Int32 → ac_m → Prop} {X : String → ac_m → Prop} {s : ac_m} (H : w_X11_bare p1 Q X s) : ac_M g i_L_bare (d + 6) 1 6 [.ref 0, .int p1, .ref 585] (false, 586, SH, s, τ) (lwQ τ thN Q X) := by
  refine ac_ofX (L0 := [some (.ref 0), some (.int p1), some (.ref 585), none]) (by decide +kernel) rfl rfl rfl ?_
  refine ax_aload_n (pc' := 1) dL_bare_0 rfl rfl ?_
  refine ax_iconst (pc' := 2) (v := (0 : Int32)) dL_bare_1 (by decide) rfl ?_
  refine ax_aload_n (pc' := 3) dL_bare_2 rfl rfl ?_
  refine ax_iload_n (pc' := 4) dL_bare_3 rfl rfl ?_
  refine ax_try1 (a := 0) (As := [.int p1]) (S := [.int 0, .ref 585]) (hp := 13) (C := "java/util/NoSuchElementException") (mc2 := 1) (ms2 := 6) (I2 := i_X11_bare) rfl dL_bare_4 ml_L_49 sh_0 (by decide) rfl rfl rfl rfl rfl cw_N ⟨3, Or.inl ⟨3, rfl, dL_bare_12, rfl⟩, by decide, rfl, fun j u h1 h2 => by obtain rfl : j = 2 := (by omega); cases h2; decide⟩ rfl rfl rfl (ac_M.imp (o_X11_bare _ p1 (ee_bare H)) ?_)
  rintro _ _ (⟨r, s1, rfl, rfl, H⟩ | ⟨E, s1, rfl, rfl, hE, H⟩)
  · show ac_X g i_L_bare (d + 6) 1 6 (lwQ τ thN Q X) (0 + 1) (0 + 6) 7 [some (.ref 0), some (.int p1), some (.ref 585), none] [.int r, .int 0, .ref 585] (false, 586, SH, s1, τ)
    refine ax_i2l (pc' := 8) dL_bare_7 rfl ?_
    refine ax_last (pc' := 9) dL_bare_8 sh_585 (ac_in (by decide)) rfl rfl ?_
    refine ax_goto (tgt := 15) dL_bare_9 (by decide) ?_
    refine ax_iconst (pc' := 16) (v := (0 : Int32)) dL_bare_15 (by decide) rfl ?_
    exact ax_iret dL_bare_16 rfl rfl rfl (Or.inl ⟨r, s1, rfl, rfl, H⟩)
  · subst hE
    refine ⟨rfl, ?_⟩
    show ac_X g i_L_bare (d + 6) 1 6 (lwQ τ thN Q X) (0 + 1) (0 + 6) 13 [some (.ref 0), some (.int p1), some (.ref 585), none] [] (false, 586, SH, s1, τ)
    refine ax_iconst (pc' := 14) (v := (1 : Int32)) dL_bare_13 (by decide) rfl ?_
    exact ax_iret dL_bare_14 rfl rfl rfl (Or.inr ⟨_, _, s1, rfl, rfl, ⟨rfl, rfl⟩, H⟩)
theorem o_L_herd {g : ac_G} {τ : Nat → Nat → Int64} (d : Nat) (p1 : Int32) (p2 : Int32) {Q : Int32 → ac_m → Prop} {X : String → ac_m → Prop} {s : ac_m} (H : w_X11_herd p1 p2 Q X s) : ac_M g i_L_herd (d + 6) 2 12 [.ref 0, .int p1, .int p2, .ref 585] (false, 586, SH, s, τ) (lwQ τ thB Q X) := by
  refine ac_ofX (L0 := [some (.ref 0), some (.int p1), some (.int p2), some (.ref 585), none]) (by decide +kernel) rfl rfl rfl ?_
  refine ax_aload_n (pc' := 1) dL_herd_0 rfl rfl ?_
  refine ax_iconst (pc' := 2) (v := (0 : Int32)) dL_herd_1 (by decide) rfl ?_
  refine ax_aload_n (pc' := 3) dL_herd_2 rfl rfl ?_
  refine ax_iload_n (pc' := 4) dL_herd_3 rfl rfl ?_
  refine ax_iload_n (pc' := 5) dL_herd_4 rfl rfl ?_
  refine ax_try2 (a := 0) (As := [.int p1, .int p2]) (S := [.int 0, .ref 585]) (hp1 := 15) (hp2 := 19) (mc2 := 2) (ms2 := 12) (I2 := i_X11_herd) rfl dL_herd_5 ml_L_52 sh_0 (by decide) rfl rfl rfl rfl rfl cw_N cw_A ⟨4, Or.inr ⟨dL_herd_13, rfl⟩, by decide, rfl, fun j u h1 h2 => by obtain rfl : j = 3 := (by omega); cases h2; decide⟩ ⟨4, Or.inr ⟨dL_herd_17, rfl⟩, by decide, rfl, fun j u h1 h2 => by obtain rfl : j = 3 := (by omega); cases h2; decide⟩ rfl rfl rfl (ac_M.imp (o_X11_herd _ p1 p2 (ee_herd H)) ?_)
  rintro _ _ (⟨r, s1, rfl, rfl, H⟩ | ⟨E, s1, rfl, rfl, hE, H⟩)
  · show ac_X g i_L_herd (d + 6) 2 12 (lwQ τ thB Q X) (0 + 2) (0 + 12) 8 [some (.ref 0), some (.int p1), some (.int p2), some (.ref 585), none] [.int r, .int 0, .ref 585] (false, 586, SH, s1, τ)
    refine ax_i2l (pc' := 9) dL_herd_8 rfl ?_
    refine ax_last (pc' := 10) dL_herd_9 sh_585 (ac_in (by decide)) rfl rfl ?_
    refine ax_goto (tgt := 21) dL_herd_10 (by decide) ?_
    refine ax_iconst (pc' := 22) (v := (0 : Int32)) dL_herd_21 (by decide) rfl ?_
    exact ax_iret dL_herd_22 rfl rfl rfl (Or.inl ⟨r, s1, rfl, rfl, H⟩)
  · rcases hE with rfl | rfl
    · refine Or.inl ⟨rfl, ?_⟩
      show ac_X g i_L_herd (d + 6) 2 12 (lwQ τ thB Q X) (0 + 2) (0 + 12) 15 [some (.ref 0), some (.int p1), some (.int p2), some (.ref 585), none] [] (false, 586, SH, s1, τ)
      refine ax_iconst (pc' := 16) (v := (1 : Int32)) dL_herd_15 (by decide) rfl ?_
      exact ax_iret dL_herd_16 rfl rfl rfl (Or.inr ⟨_, _, s1, rfl, rfl, Or.inl ⟨rfl, rfl⟩, H⟩)
    · refine Or.inr ⟨rfl, ?_⟩
      show ac_X g i_L_herd (d + 6) 2 12 (lwQ τ thB Q X) (0 + 2) (0 + 12) 19 [some (.ref 0), some (.int p1), some (.int p2), some (.ref 585), none] [] (false, 586, SH, s1, τ)
      refine ax_iconst (pc' := 20) (v := (2 : Int32)) dL_herd_19 (by decide) rfl ?_
      exact ax_iret dL_herd_20 rfl rfl rfl (Or.inr ⟨_, _, s1, rfl, rfl, Or.inr ⟨rfl, rfl⟩, H⟩)
theorem o_L_paid {g : ac_G} {τ : Nat → Nat → Int64} (d : Nat) (p1 : Int32) (p2 : Int32) {Q : Int32 → ac_m → Prop} {X : String → ac_m → Prop} {s : ac_m} (H : w_X11_paid p1 p2 Q X s) : ac_M g i_L_paid (d + 4) 2 12 [.ref 0, .int p1, .int p2, .ref 585] (false, 586, SH, s, τ) (lwQ τ thB Q X) := by
  refine ac_ofX (L0 := [some (.ref 0), some (.int p1), some (.int p2), some (.ref 585), none]) (by decide +kernel) rfl rfl rfl ?_
  refine ax_aload_n (pc' := 1) dL_paid_0 rfl rfl ?_
  refine ax_iconst (pc' := 2) (v := (0 : Int32)) dL_paid_1 (by decide) rfl ?_
  refine ax_aload_n (pc' := 3) dL_paid_2 rfl rfl ?_
  refine ax_iload_n (pc' := 4) dL_paid_3 rfl rfl ?_
  refine ax_iload_n (pc' := 5) dL_paid_4 rfl rfl ?_
  refine ax_try2 (a := 0) (As := [.int p1, .int p2]) (S := [.int 0, .ref 585]) (hp1 := 15) (hp2 := 19) (mc2 := 2) (ms2 := 12) (I2 := i_X11_paid) rfl dL_paid_5 ml_L_55 sh_0 (by decide) rfl rfl rfl rfl rfl cw_N cw_A ⟨4, Or.inr ⟨dL_paid_13, rfl⟩, by decide, rfl, fun j u h1 h2 => by obtain rfl : j = 3 := (by omega); cases h2; decide⟩ ⟨4, Or.inr ⟨dL_paid_17, rfl⟩, by decide, rfl, fun j u h1 h2 => by obtain rfl : j = 3 := (by omega); cases h2; decide⟩ rfl rfl rfl (ac_M.imp (o_X11_paid _ p1 p2 (ee_paid H)) ?_)
  rintro _ _ (⟨r, s1, rfl, rfl, H⟩ | ⟨E, s1, rfl, rfl, hE, H⟩)
  · show ac_X g i_L_paid (d + 4) 2 12 (lwQ τ thB Q X) (0 + 2) (0 + 12) 8 [some (.ref 0), some (.int p1), some (.int p2), some (.ref 585), none] [.int r, .int 0, .ref 585] (false, 586, SH, s1, τ)
    refine ax_i2l (pc' := 9) dL_paid_8 rfl ?_
    refine ax_last (pc' := 10) dL_paid_9 sh_585 (ac_in (by decide)) rfl rfl ?_
    refine ax_goto (tgt := 21) dL_paid_10 (by decide) ?_
    refine ax_iconst (pc' := 22) (v := (0 : Int32)) dL_paid_21 (by decide) rfl ?_
    exact ax_iret dL_paid_22 rfl rfl rfl (Or.inl ⟨r, s1, rfl, rfl, H⟩)
  · rcases hE with rfl | rfl
    · refine Or.inl ⟨rfl, ?_⟩
      show ac_X g i_L_paid (d + 4) 2 12 (lwQ τ thB Q X) (0 + 2) (0 + 12) 15 [some (.ref 0), some (.int p1), some (.int p2), some (.ref 585), none] [] (false, 586, SH, s1, τ)
      refine ax_iconst (pc' := 16) (v := (1 : Int32)) dL_paid_15 (by decide) rfl ?_
      exact ax_iret dL_paid_16 rfl rfl rfl (Or.inr ⟨_, _, s1, rfl, rfl, Or.inl ⟨rfl, rfl⟩, H⟩)
    · refine Or.inr ⟨rfl, ?_⟩
      show ac_X g i_L_paid (d + 4) 2 12 (lwQ τ thB Q X) (0 + 2) (0 + 12) 19 [some (.ref 0), some (.int p1), some (.int p2), some (.ref 585), none] [] (false, 586, SH, s1, τ)
      refine ax_iconst (pc' := 20) (v := (2 : Int32)) dL_paid_19 (by decide) rfl ?_
      exact ax_iret dL_paid_20 rfl rfl rfl (Or.inr ⟨_, _, s1, rfl, rfl, Or.inr ⟨rfl, rfl⟩, H⟩)
theorem o_L_unseen {g : ac_G} {τ : Nat → Nat → Int64} (d : Nat) (p1 : Int32) (p2 : Int32) {Q : Int32 → ac_m → Prop} {X : String → ac_m → Prop} {s : ac_m} (H : w_X11_unseen p1 p2 Q X s) : ac_M g i_L_unseen (d + 8) 2 12 [.ref 0, .int p1, .int p2, .ref 585] (false, 586, SH, s, τ) (lwQ τ thB Q X) := by
  refine ac_ofX (L0 := [some (.ref 0), some (.int p1), some (.int p2), some (.ref 585), none]) (by decide +kernel) rfl rfl rfl ?_
  refine ax_aload_n (pc' := 1) dL_unseen_0 rfl rfl ?_
  refine ax_iconst (pc' := 2) (v := (0 : Int32)) dL_unseen_1 (by decide) rfl ?_
  refine ax_aload_n (pc' := 3) dL_unseen_2 rfl rfl ?_
  refine ax_iload_n (pc' := 4) dL_unseen_3 rfl rfl ?_
  refine ax_iload_n (pc' := 5) dL_unseen_4 rfl rfl ?_
  refine ax_try2 (a := 0) (As := [.int p1, .int p2]) (S := [.int 0, .ref 585]) (hp1 := 15) (hp2 := 19) (mc2 := 2) (ms2 := 12) (I2 := i_X11_unseen) rfl dL_unseen_5 ml_L_58 sh_0 (by decide) rfl rfl rfl rfl rfl cw_N cw_A ⟨4, Or.inr ⟨dL_unseen_13, rfl⟩, by decide, rfl, fun j u h1 h2 => by obtain rfl : j = 3 := (by omega); cases h2; decide⟩ ⟨4, Or.inr ⟨dL_unseen_17, rfl⟩, by decide, rfl, fun j u h1 h2 => by obtain rfl : j = 3 := (by omega); cases h2; decide⟩ rfl rfl rfl (ac_M.imp (o_X11_unseen _ p1 p2 (ee_unseen H)) ?_)
  rintro _ _ (⟨r, s1, rfl, rfl, H⟩ | ⟨E, s1, rfl, rfl, hE, H⟩)
  · show ac_X g i_L_unseen (d + 8) 2 12 (lwQ τ thB Q X) (0 + 2) (0 + 12) 8 [some (.ref 0), some (.int p1), some (.int p2), some (.ref 585), none] [.int r, .int 0, .ref 585] (false, 586, SH, s1, τ)
    refine ax_i2l (pc' := 9) dL_unseen_8 rfl ?_
    refine ax_last (pc' := 10) dL_unseen_9 sh_585 (ac_in (by decide)) rfl rfl ?_
    refine ax_goto (tgt := 21) dL_unseen_10 (by decide) ?_
    refine ax_iconst (pc' := 22) (v := (0 : Int32)) dL_unseen_21 (by decide) rfl ?_
    exact ax_iret dL_unseen_22 rfl rfl rfl (Or.inl ⟨r, s1, rfl, rfl, H⟩)
  · rcases hE with rfl | rfl
    · refine Or.inl ⟨rfl, ?_⟩
      show ac_X g i_L_unseen (d + 8) 2 12 (lwQ τ thB Q X) (0 + 2) (0 + 12) 15 [some (.ref 0), some (.int p1), some (.int p2), some (.ref 585), none] [] (false, 586, SH, s1, τ)
      refine ax_iconst (pc' := 16) (v := (1 : Int32)) dL_unseen_15 (by decide) rfl ?_
      exact ax_iret dL_unseen_16 rfl rfl rfl (Or.inr ⟨_, _, s1, rfl, rfl, Or.inl ⟨rfl, rfl⟩, H⟩)
    · refine Or.inr ⟨rfl, ?_⟩
      show ac_X g i_L_unseen (d + 8) 2 12 (lwQ τ thB Q X) (0 + 2) (0 + 12) 19 [some (.ref 0), some (.int p1), some (.int p2), some (.ref 585), none] [] (false, 586, SH, s1, τ)
      refine ax_iconst (pc' := 20) (v := (2 : Int32)) dL_unseen_19 (by decide) rfl ?_
      exact ax_iret dL_unseen_20 rfl rfl rfl (Or.inr ⟨_, _, s1, rfl, rfl, Or.inr ⟨rfl, rfl⟩, H⟩)
theorem o_L_look {g : ac_G} {τ : Nat → Nat → Int64} (d : Nat) (p1 : Int32) (p2 : Int32) {Q : Int32 → ac_m → Prop} {X : String → ac_m → Prop} {s : ac_m} (H : w_X11_look p1 p2 Q X s) : ac_M g i_L_look (d + 8) 2 12 [.ref 0, .int p1, .int p2, .ref 585] (false, 586, SH, s, τ) (lwQ τ thB Q X) := by
  refine ac_ofX (L0 := [some (.ref 0), some (.int p1), some (.int p2), some (.ref 585), none]) (by decide +kernel) rfl rfl rfl ?_
  refine ax_aload_n (pc' := 1) dL_look_0 rfl rfl ?_
  refine ax_iconst (pc' := 2) (v := (0 : Int32)) dL_look_1 (by decide) rfl ?_
  refine ax_aload_n (pc' := 3) dL_look_2 rfl rfl ?_
  refine ax_iload_n (pc' := 4) dL_look_3 rfl rfl ?_
  refine ax_iload_n (pc' := 5) dL_look_4 rfl rfl ?_
  refine ax_try2 (a := 0) (As := [.int p1, .int p2]) (S := [.int 0, .ref 585]) (hp1 := 15) (hp2 := 19) (mc2 := 2) (ms2 := 12) (I2 := i_X11_look) rfl dL_look_5 ml_L_61 sh_0 (by decide) rfl rfl rfl rfl rfl cw_N cw_A ⟨4, Or.inr ⟨dL_look_13, rfl⟩, by decide, rfl, fun j u h1 h2 => by obtain rfl : j = 3 := (by omega); cases h2; decide⟩ ⟨4, Or.inr ⟨dL_look_17, rfl⟩, by decide, rfl, fun j u h1 h2 => by obtain rfl : j = 3 := (by omega); cases h2; decide⟩ rfl rfl rfl (ac_M.imp (o_X11_look _ p1 p2 (ee_look H)) ?_)
  rintro _ _ (⟨r, s1, rfl, rfl, H⟩ | ⟨E, s1, rfl, rfl, hE, H⟩)
  · show ac_X g i_L_look (d + 8) 2 12 (lwQ τ thB Q X) (0 + 2) (0 + 12) 8 [some (.ref 0), some (.int p1), some (.int p2), some (.ref 585), none] [.int r, .int 0, .ref 585] (false, 586, SH, s1, τ)
    refine ax_i2l (pc' := 9) dL_look_8 rfl ?_
    refine ax_last (pc' := 10) dL_look_9 sh_585 (ac_in (by decide)) rfl rfl ?_
    refine ax_goto (tgt := 21) dL_look_10 (by decide) ?_
    refine ax_iconst (pc' := 22) (v := (0 : Int32)) dL_look_21 (by decide) rfl ?_
    exact ax_iret dL_look_22 rfl rfl rfl (Or.inl ⟨r, s1, rfl, rfl, H⟩)
  · rcases hE with rfl | rfl
    · refine Or.inl ⟨rfl, ?_⟩
      show ac_X g i_L_look (d + 8) 2 12 (lwQ τ thB Q X) (0 + 2) (0 + 12) 15 [some (.ref 0), some (.int p1), some (.int p2), some (.ref 585), none] [] (false, 586, SH, s1, τ)
      refine ax_iconst (pc' := 16) (v := (1 : Int32)) dL_look_15 (by decide) rfl ?_
      exact ax_iret dL_look_16 rfl rfl rfl (Or.inr ⟨_, _, s1, rfl, rfl, Or.inl ⟨rfl, rfl⟩, H⟩)
    · refine Or.inr ⟨rfl, ?_⟩
      show ac_X g i_L_look (d + 8) 2 12 (lwQ τ thB Q X) (0 + 2) (0 + 12) 19 [some (.ref 0), some (.int p1), some (.int p2), some (.ref 585), none] [] (false, 586, SH, s1, τ)
      refine ax_iconst (pc' := 20) (v := (2 : Int32)) dL_look_19 (by decide) rfl ?_
      exact ax_iret dL_look_20 rfl rfl rfl (Or.inr ⟨_, _, s1, rfl, rfl, Or.inr ⟨rfl, rfl⟩, H⟩)
theorem o_L_way {g : ac_G} {τ : Nat → Nat → Int64} (d : Nat) (p1 : Int32) (p2 : Int32) {Q : Int32 → ac_m → Prop} {X : String → ac_m → Prop} {s : ac_m} (H : w_X11_way p1 p2 Q X s) : ac_M g i_L_way (d + 3) 2 12 [.ref 0, .int p1, .int p2, .ref 585] (false, 586, SH, s, τ) (lwQ τ thN Q X) := by
  refine ac_ofX (L0 := [some (.ref 0), some (.int p1), some (.int p2), some (.ref 585), none]) (by decide +kernel) rfl rfl rfl ?_
  refine ax_aload_n (pc' := 1) dL_way_0 rfl rfl ?_
  refine ax_iconst (pc' := 2) (v := (0 : Int32)) dL_way_1 (by decide) rfl ?_
  refine ax_aload_n (pc' := 3) dL_way_2 rfl rfl ?_
  refine ax_iload_n (pc' := 4) dL_way_3 rfl rfl ?_
  refine ax_iload_n (pc' := 5) dL_way_4 rfl rfl ?_
  refine ax_try1 (a := 0) (As := [.int p1, .int p2]) (S := [.int 0, .ref 585]) (hp := 15) (C := "java/util/NoSuchElementException") (mc2 := 2) (ms2 := 12) (I2 := i_X11_way) rfl dL_way_5 ml_L_64 sh_0 (by decide) rfl rfl rfl rfl rfl cw_N ⟨4, Or.inr ⟨dL_way_13, rfl⟩, by decide, rfl, fun j u h1 h2 => by obtain rfl : j = 3 := (by omega); cases h2; decide⟩ rfl rfl rfl (ac_M.imp (o_X11_way _ p1 p2 (ee_way H)) ?_)
  rintro _ _ (⟨r, s1, rfl, rfl, H⟩ | ⟨E, s1, rfl, rfl, hE, H⟩)
  · show ac_X g i_L_way (d + 3) 2 12 (lwQ τ thN Q X) (0 + 2) (0 + 12) 8 [some (.ref 0), some (.int p1), some (.int p2), some (.ref 585), none] [.int r, .int 0, .ref 585] (false, 586, SH, s1, τ)
    refine ax_i2l (pc' := 9) dL_way_8 rfl ?_
    refine ax_last (pc' := 10) dL_way_9 sh_585 (ac_in (by decide)) rfl rfl ?_
    refine ax_goto (tgt := 17) dL_way_10 (by decide) ?_
    refine ax_iconst (pc' := 18) (v := (0 : Int32)) dL_way_17 (by decide) rfl ?_
    exact ax_iret dL_way_18 rfl rfl rfl (Or.inl ⟨r, s1, rfl, rfl, H⟩)
  · subst hE
    refine ⟨rfl, ?_⟩
    show ac_X g i_L_way (d + 3) 2 12 (lwQ τ thN Q X) (0 + 2) (0 + 12) 15 [some (.ref 0), some (.int p1), some (.int p2), some (.ref 585), none] [] (false, 586, SH, s1, τ)
    refine ax_iconst (pc' := 16) (v := (1 : Int32)) dL_way_15 (by decide) rfl ?_
    exact ax_iret dL_way_16 rfl rfl rfl (Or.inr ⟨_, _, s1, rfl, rfl, ⟨rfl, rfl⟩, H⟩)
theorem o_L_price {g : ac_G} {τ : Nat → Nat → Int64} (d : Nat) (p1 : Int32) (p2 : Int32) {Q : Int32 → ac_m → Prop} {X : String → ac_m → Prop} {s : ac_m} (H : w_X11_price p1 p2 Q X s) : ac_M g i_L_price (d + 3) 2 12 [.ref 0, .int p1, .int p2, .ref 585] (false, 586, SH, s, τ) (lwQ τ thA Q X) := by
  refine ac_ofX (L0 := [some (.ref 0), some (.int p1), some (.int p2), some (.ref 585), none]) (by decide +kernel) rfl rfl rfl ?_
  refine ax_aload_n (pc' := 1) dL_price_0 rfl rfl ?_
  refine ax_iconst (pc' := 2) (v := (0 : Int32)) dL_price_1 (by decide) rfl ?_
  refine ax_aload_n (pc' := 3) dL_price_2 rfl rfl ?_
  refine ax_iload_n (pc' := 4) dL_price_3 rfl rfl ?_
  refine ax_iload_n (pc' := 5) dL_price_4 rfl rfl ?_
  refine ax_try1 (a := 0) (As := [.int p1, .int p2]) (S := [.int 0, .ref 585]) (hp := 15) (C := "java/lang/IllegalArgumentException") (mc2 := 2) (ms2 := 12) (I2 := i_X11_price) rfl dL_price_5 ml_L_67 sh_0 (by decide) rfl rfl rfl rfl rfl cw_A ⟨4, Or.inr ⟨dL_price_13, rfl⟩, by decide, rfl, fun j u h1 h2 => by obtain rfl : j = 3 := (by omega); cases h2; decide⟩ rfl rfl rfl (ac_M.imp (o_X11_price _ p1 p2 (ee_price H)) ?_)
  rintro _ _ (⟨r, s1, rfl, rfl, H⟩ | ⟨E, s1, rfl, rfl, hE, H⟩)
  · show ac_X g i_L_price (d + 3) 2 12 (lwQ τ thA Q X) (0 + 2) (0 + 12) 8 [some (.ref 0), some (.int p1), some (.int p2), some (.ref 585), none] [.int r, .int 0, .ref 585] (false, 586, SH, s1, τ)
    refine ax_i2l (pc' := 9) dL_price_8 rfl ?_
    refine ax_last (pc' := 10) dL_price_9 sh_585 (ac_in (by decide)) rfl rfl ?_
    refine ax_goto (tgt := 17) dL_price_10 (by decide) ?_
    refine ax_iconst (pc' := 18) (v := (0 : Int32)) dL_price_17 (by decide) rfl ?_
    exact ax_iret dL_price_18 rfl rfl rfl (Or.inl ⟨r, s1, rfl, rfl, H⟩)
  · subst hE
    refine ⟨rfl, ?_⟩
    show ac_X g i_L_price (d + 3) 2 12 (lwQ τ thA Q X) (0 + 2) (0 + 12) 15 [some (.ref 0), some (.int p1), some (.int p2), some (.ref 585), none] [] (false, 586, SH, s1, τ)
    refine ax_iconst (pc' := 16) (v := (1 : Int32)) dL_price_15 (by decide) rfl ?_
    exact ax_iret dL_price_16 rfl rfl rfl (Or.inr ⟨_, _, s1, rfl, rfl, ⟨rfl, rfl⟩, H⟩)
theorem o_L_owing {g : ac_G} {τ : Nat → Nat → Int64} (d : Nat) (p1 : Int32) (p2 : Int32) (p3 : Int32) {Q : Int32 → ac_m → Prop} {X : String → ac_m → Prop} {s : ac_m} (H : w_X11_owing p1 p2 p3 Q X s) : ac_M g i_L_owing (d + 4) 3 18 [.ref 0, .int p1, .int p2, .int p3, .ref 585] (false, 586, SH, s, τ) (lwQ τ thA Q X) := by
  refine ac_ofX (L0 := [some (.ref 0), some (.int p1), some (.int p2), some (.int p3), some (.ref 585), none]) (by decide +kernel) rfl rfl rfl ?_
  refine ax_aload (pc' := 2) dL_owing_0 rfl rfl ?_
  refine ax_iconst (pc' := 3) (v := (0 : Int32)) dL_owing_2 (by decide) rfl ?_
  refine ax_aload_n (pc' := 4) dL_owing_3 rfl rfl ?_
  refine ax_iload_n (pc' := 5) dL_owing_4 rfl rfl ?_
  refine ax_iload_n (pc' := 6) dL_owing_5 rfl rfl ?_
  refine ax_iload_n (pc' := 7) dL_owing_6 rfl rfl ?_
  refine ax_try1 (a := 0) (As := [.int p1, .int p2, .int p3]) (S := [.int 0, .ref 585]) (hp := 17) (C := "java/lang/IllegalArgumentException") (mc2 := 3) (ms2 := 18) (I2 := i_X11_owing) rfl dL_owing_7 ml_L_70 sh_0 (by decide) rfl rfl rfl rfl rfl cw_A ⟨5, Or.inr ⟨dL_owing_15, rfl⟩, by decide, rfl, fun j u h1 h2 => by obtain rfl : j = 4 := (by omega); cases h2; decide⟩ rfl rfl rfl (ac_M.imp (o_X11_owing _ p1 p2 p3 (ee_owing H)) ?_)
  rintro _ _ (⟨r, s1, rfl, rfl, H⟩ | ⟨E, s1, rfl, rfl, hE, H⟩)
  · show ac_X g i_L_owing (d + 4) 3 18 (lwQ τ thA Q X) (0 + 3) (0 + 18) 10 [some (.ref 0), some (.int p1), some (.int p2), some (.int p3), some (.ref 585), none] [.int r, .int 0, .ref 585] (false, 586, SH, s1, τ)
    refine ax_i2l (pc' := 11) dL_owing_10 rfl ?_
    refine ax_last (pc' := 12) dL_owing_11 sh_585 (ac_in (by decide)) rfl rfl ?_
    refine ax_goto (tgt := 19) dL_owing_12 (by decide) ?_
    refine ax_iconst (pc' := 20) (v := (0 : Int32)) dL_owing_19 (by decide) rfl ?_
    exact ax_iret dL_owing_20 rfl rfl rfl (Or.inl ⟨r, s1, rfl, rfl, H⟩)
  · subst hE
    refine ⟨rfl, ?_⟩
    show ac_X g i_L_owing (d + 4) 3 18 (lwQ τ thA Q X) (0 + 3) (0 + 18) 17 [some (.ref 0), some (.int p1), some (.int p2), some (.int p3), some (.ref 585), none] [] (false, 586, SH, s1, τ)
    refine ax_iconst (pc' := 18) (v := (1 : Int32)) dL_owing_17 (by decide) rfl ?_
    exact ax_iret dL_owing_18 rfl rfl rfl (Or.inr ⟨_, _, s1, rfl, rfl, ⟨rfl, rfl⟩, H⟩)
theorem o_L_home {g : ac_G} {τ : Nat → Nat → Int64} (d : Nat) (p1 : Int32) (p2 : Int32) (p3 : Int32) (p4 : Int32) {Q : Int64 → ac_m → Prop} {X : String → ac_m → Prop} {s : ac_m} (H : w_X11_home p1 p2 p3 p4 Q X s) : ac_M g i_L_home (d + 3) 4 24 [.ref 0, .int p1, .int p2, .int p3, .int p4, .ref 585] (false, 586, SH, s, τ) (lwL τ thA Q X) := by
  refine ac_ofX (L0 := [some (.ref 0), some (.int p1), some (.int p2), some (.int p3), some (.int p4), some (.ref 585), none]) (by decide +kernel) rfl rfl rfl ?_
  refine ax_aload (pc' := 2) dL_home_0 rfl rfl ?_
  refine ax_iconst (pc' := 3) (v := (0 : Int32)) dL_home_2 (by decide) rfl ?_
  refine ax_aload_n (pc' := 4) dL_home_3 rfl rfl ?_
  refine ax_iload_n (pc' := 5) dL_home_4 rfl rfl ?_
  refine ax_iload_n (pc' := 6) dL_home_5 rfl rfl ?_
  refine ax_iload_n (pc' := 7) dL_home_6 rfl rfl ?_
  refine ax_iload (pc' := 9) dL_home_7 rfl rfl ?_
  refine ax_try1 (a := 0) (As := [.int p1, .int p2, .int p3, .int p4]) (S := [.int 0, .ref 585]) (hp := 18) (C := "java/lang/IllegalArgumentException") (mc2 := 4) (ms2 := 24) (I2 := i_X11_home) rfl dL_home_9 ml_L_74 sh_0 (by decide) rfl rfl rfl rfl rfl cw_A ⟨6, Or.inr ⟨dL_home_16, rfl⟩, by decide, rfl, fun j u h1 h2 => by obtain rfl : j = 5 := (by omega); cases h2; decide⟩ rfl rfl rfl (ac_M.imp (o_X11_home _ p1 p2 p3 p4 (ee_home H)) ?_)
  rintro _ _ (⟨r, s1, rfl, rfl, H⟩ | ⟨E, s1, rfl, rfl, hE, H⟩)
  · show ac_X g i_L_home (d + 3) 4 24 (lwL τ thA Q X) (0 + 4) (0 + 24) 12 [some (.ref 0), some (.int p1), some (.int p2), some (.int p3), some (.int p4), some (.ref 585), none] [.long r, .int 0, .ref 585] (false, 586, SH, s1, τ)
    refine ax_last (pc' := 13) dL_home_12 sh_585 (ac_in (by decide)) rfl rfl ?_
    refine ax_goto (tgt := 20) dL_home_13 (by decide) ?_
    refine ax_iconst (pc' := 21) (v := (0 : Int32)) dL_home_20 (by decide) rfl ?_
    exact ax_iret dL_home_21 rfl rfl rfl (Or.inl ⟨r, s1, rfl, rfl, H⟩)
  · subst hE
    refine ⟨rfl, ?_⟩
    show ac_X g i_L_home (d + 3) 4 24 (lwL τ thA Q X) (0 + 4) (0 + 24) 18 [some (.ref 0), some (.int p1), some (.int p2), some (.int p3), some (.int p4), some (.ref 585), none] [] (false, 586, SH, s1, τ)
    refine ax_iconst (pc' := 19) (v := (1 : Int32)) dL_home_18 (by decide) rfl ?_
    exact ax_iret dL_home_19 rfl rfl rfl (Or.inr ⟨_, _, s1, rfl, rfl, ⟨rfl, rfl⟩, H⟩)
theorem o_L_share {g : ac_G} {τ : Nat → Nat → Int64} (d : Nat) (p1 : Int32) (p2 : Int32) (p3 : Int32) {Q : Int32 → ac_m → Prop} {X : String → ac_m → Prop} {s : ac_m} (H : w_X11_share p1 p2 p3 Q X s) : ac_M g i_L_share (d + 3) 3 18 [.ref 0, .int p1, .int p2, .int p3, .ref 585] (false, 586, SH, s, τ) (lwQ τ thB Q X) := by
  refine ac_ofX (L0 := [some (.ref 0), some (.int p1), some (.int p2), some (.int p3), some (.ref 585), none]) (by decide +kernel) rfl rfl rfl ?_
  refine ax_aload (pc' := 2) dL_share_0 rfl rfl ?_
  refine ax_iconst (pc' := 3) (v := (0 : Int32)) dL_share_2 (by decide) rfl ?_
  refine ax_aload_n (pc' := 4) dL_share_3 rfl rfl ?_
  refine ax_iload_n (pc' := 5) dL_share_4 rfl rfl ?_
  refine ax_iload_n (pc' := 6) dL_share_5 rfl rfl ?_
  refine ax_iload_n (pc' := 7) dL_share_6 rfl rfl ?_
  refine ax_try2 (a := 0) (As := [.int p1, .int p2, .int p3]) (S := [.int 0, .ref 585]) (hp1 := 17) (hp2 := 21) (mc2 := 3) (ms2 := 18) (I2 := i_X11_share) rfl dL_share_7 ml_L_78 sh_0 (by decide) rfl rfl rfl rfl rfl cw_N cw_A ⟨5, Or.inr ⟨dL_share_15, rfl⟩, by decide, rfl, fun j u h1 h2 => by obtain rfl : j = 4 := (by omega); cases h2; decide⟩ ⟨5, Or.inr ⟨dL_share_19, rfl⟩, by decide, rfl, fun j u h1 h2 => by obtain rfl : j = 4 := (by omega); cases h2; decide⟩ rfl rfl rfl (ac_M.imp (o_X11_share _ p1 p2 p3 (ee_share H)) ?_)
  rintro _ _ (⟨r, s1, rfl, rfl, H⟩ | ⟨E, s1, rfl, rfl, hE, H⟩)
  · show ac_X g i_L_share (d + 3) 3 18 (lwQ τ thB Q X) (0 + 3) (0 + 18) 10 [some (.ref 0), some (.int p1), some (.int p2), some (.int p3), some (.ref 585), none] [.int r, .int 0, .ref 585] (false, 586, SH, s1, τ)
    refine ax_i2l (pc' := 11) dL_share_10 rfl ?_
    refine ax_last (pc' := 12) dL_share_11 sh_585 (ac_in (by decide)) rfl rfl ?_
    refine ax_goto (tgt := 23) dL_share_12 (by decide) ?_
    refine ax_iconst (pc' := 24) (v := (0 : Int32)) dL_share_23 (by decide) rfl ?_
    exact ax_iret dL_share_24 rfl rfl rfl (Or.inl ⟨r, s1, rfl, rfl, H⟩)
  · rcases hE with rfl | rfl
    · refine Or.inl ⟨rfl, ?_⟩
      show ac_X g i_L_share (d + 3) 3 18 (lwQ τ thB Q X) (0 + 3) (0 + 18) 17 [some (.ref 0), some (.int p1), some (.int p2), some (.int p3), some (.ref 585), none] [] (false, 586, SH, s1, τ)
      refine ax_iconst (pc' := 18) (v := (1 : Int32)) dL_share_17 (by decide) rfl ?_
      exact ax_iret dL_share_18 rfl rfl rfl (Or.inr ⟨_, _, s1, rfl, rfl, Or.inl ⟨rfl, rfl⟩, H⟩)
    · refine Or.inr ⟨rfl, ?_⟩
      show ac_X g i_L_share (d + 3) 3 18 (lwQ τ thB Q X) (0 + 3) (0 + 18) 21 [some (.ref 0), some (.int p1), some (.int p2), some (.int p3), some (.ref 585), none] [] (false, 586, SH, s1, τ)
      refine ax_iconst (pc' := 22) (v := (2 : Int32)) dL_share_21 (by decide) rfl ?_
      exact ax_iret dL_share_22 rfl rfl rfl (Or.inr ⟨_, _, s1, rfl, rfl, Or.inr ⟨rfl, rfl⟩, H⟩)
theorem o_L_heaviest {g : ac_G} {τ : Nat → Nat → Int64} (d : Nat) (p1 : Int32) {Q : Int32 → ac_m → Prop} {X : String → ac_m → Prop} {s : ac_m} (H : w_X11_heaviest p1 Q X s) : ac_M g i_L_heaviest (d + 3) 1 6 [.ref 0, .int p1, .ref 585] (false, 586, SH, s, τ) (lwQ τ thA Q X) := by
  refine ac_ofX (L0 := [some (.ref 0), some (.int p1), some (.ref 585), none]) (by decide +kernel) rfl rfl rfl ?_
  refine ax_aload_n (pc' := 1) dL_heaviest_0 rfl rfl ?_
  refine ax_iconst (pc' := 2) (v := (0 : Int32)) dL_heaviest_1 (by decide) rfl ?_
  refine ax_aload_n (pc' := 3) dL_heaviest_2 rfl rfl ?_
  refine ax_iload_n (pc' := 4) dL_heaviest_3 rfl rfl ?_
  refine ax_try1 (a := 0) (As := [.int p1]) (S := [.int 0, .ref 585]) (hp := 13) (C := "java/lang/IllegalArgumentException") (mc2 := 1) (ms2 := 6) (I2 := i_X11_heaviest) rfl dL_heaviest_4 ml_L_81 sh_0 (by decide) rfl rfl rfl rfl rfl cw_A ⟨3, Or.inl ⟨3, rfl, dL_heaviest_12, rfl⟩, by decide, rfl, fun j u h1 h2 => by obtain rfl : j = 2 := (by omega); cases h2; decide⟩ rfl rfl rfl (ac_M.imp (o_X11_heaviest _ p1 (ee_heaviest H)) ?_)
  rintro _ _ (⟨r, s1, rfl, rfl, H⟩ | ⟨E, s1, rfl, rfl, hE, H⟩)
  · show ac_X g i_L_heaviest (d + 3) 1 6 (lwQ τ thA Q X) (0 + 1) (0 + 6) 7 [some (.ref 0), some (.int p1), some (.ref 585), none] [.int r, .int 0, .ref 585] (false, 586, SH, s1, τ)
    refine ax_i2l (pc' := 8) dL_heaviest_7 rfl ?_
    refine ax_last (pc' := 9) dL_heaviest_8 sh_585 (ac_in (by decide)) rfl rfl ?_
    refine ax_goto (tgt := 15) dL_heaviest_9 (by decide) ?_
    refine ax_iconst (pc' := 16) (v := (0 : Int32)) dL_heaviest_15 (by decide) rfl ?_
    exact ax_iret dL_heaviest_16 rfl rfl rfl (Or.inl ⟨r, s1, rfl, rfl, H⟩)
  · subst hE
    refine ⟨rfl, ?_⟩
    show ac_X g i_L_heaviest (d + 3) 1 6 (lwQ τ thA Q X) (0 + 1) (0 + 6) 13 [some (.ref 0), some (.int p1), some (.ref 585), none] [] (false, 586, SH, s1, τ)
    refine ax_iconst (pc' := 14) (v := (1 : Int32)) dL_heaviest_13 (by decide) rfl ?_
    exact ax_iret dL_heaviest_14 rfl rfl rfl (Or.inr ⟨_, _, s1, rfl, rfl, ⟨rfl, rfl⟩, H⟩)
theorem o_L_oldest {g : ac_G} {τ : Nat → Nat → Int64} (d : Nat) (p1 : Int32) {Q : Int32 → ac_m → Prop} {X : String → ac_m → Prop} {s : ac_m} (H : w_X11_oldest p1 Q X s) : ac_M g i_L_oldest (d + 3) 1 6 [.ref 0, .int p1, .ref 585] (false, 586, SH, s, τ) (lwQ τ thA Q X) := by
  refine ac_ofX (L0 := [some (.ref 0), some (.int p1), some (.ref 585), none]) (by decide +kernel) rfl rfl rfl ?_
  refine ax_aload_n (pc' := 1) dL_oldest_0 rfl rfl ?_
  refine ax_iconst (pc' := 2) (v := (0 : Int32)) dL_oldest_1 (by decide) rfl ?_
  refine ax_aload_n (pc' := 3) dL_oldest_2 rfl rfl ?_
  refine ax_iload_n (pc' := 4) dL_oldest_3 rfl rfl ?_
  refine ax_try1 (a := 0) (As := [.int p1]) (S := [.int 0, .ref 585]) (hp := 13) (C := "java/lang/IllegalArgumentException") (mc2 := 1) (ms2 := 6) (I2 := i_X11_oldest) rfl dL_oldest_4 ml_L_84 sh_0 (by decide) rfl rfl rfl rfl rfl cw_A ⟨3, Or.inl ⟨3, rfl, dL_oldest_12, rfl⟩, by decide, rfl, fun j u h1 h2 => by obtain rfl : j = 2 := (by omega); cases h2; decide⟩ rfl rfl rfl (ac_M.imp (o_X11_oldest _ p1 (ee_oldest H)) ?_)
  rintro _ _ (⟨r, s1, rfl, rfl, H⟩ | ⟨E, s1, rfl, rfl, hE, H⟩)
  · show ac_X g i_L_oldest (d + 3) 1 6 (lwQ τ thA Q X) (0 + 1) (0 + 6) 7 [some (.ref 0), some (.int p1), some (.ref 585), none] [.int r, .int 0, .ref 585] (false, 586, SH, s1, τ)
    refine ax_i2l (pc' := 8) dL_oldest_7 rfl ?_
    refine ax_last (pc' := 9) dL_oldest_8 sh_585 (ac_in (by decide)) rfl rfl ?_
    refine ax_goto (tgt := 15) dL_oldest_9 (by decide) ?_
    refine ax_iconst (pc' := 16) (v := (0 : Int32)) dL_oldest_15 (by decide) rfl ?_
    exact ax_iret dL_oldest_16 rfl rfl rfl (Or.inl ⟨r, s1, rfl, rfl, H⟩)
  · subst hE
    refine ⟨rfl, ?_⟩
    show ac_X g i_L_oldest (d + 3) 1 6 (lwQ τ thA Q X) (0 + 1) (0 + 6) 13 [some (.ref 0), some (.int p1), some (.ref 585), none] [] (false, 586, SH, s1, τ)
    refine ax_iconst (pc' := 14) (v := (1 : Int32)) dL_oldest_13 (by decide) rfl ?_
    exact ax_iret dL_oldest_14 rfl rfl rfl (Or.inr ⟨_, _, s1, rfl, rfl, ⟨rfl, rfl⟩, H⟩)
theorem o_L_good {g : ac_G} {τ : Nat → Nat → Int64} (d : Nat) (p1 : Int32) {Q : Int32 → ac_m → Prop} {X : String → ac_m → Prop} {s : ac_m} (H : w_X11_good p1 Q X s) : ac_M g i_L_good (d + 3) 1 6 [.ref 0, .int p1, .ref 585] (false, 586, SH, s, τ) (lwQ τ thA Q X) := by
  refine ac_ofX (L0 := [some (.ref 0), some (.int p1), some (.ref 585), none]) (by decide +kernel) rfl rfl rfl ?_
  refine ax_aload_n (pc' := 1) dL_good_0 rfl rfl ?_
  refine ax_iconst (pc' := 2) (v := (0 : Int32)) dL_good_1 (by decide) rfl ?_
  refine ax_aload_n (pc' := 3) dL_good_2 rfl rfl ?_
  refine ax_iload_n (pc' := 4) dL_good_3 rfl rfl ?_
  refine ax_try1 (a := 0) (As := [.int p1]) (S := [.int 0, .ref 585]) (hp := 13) (C := "java/lang/IllegalArgumentException") (mc2 := 1) (ms2 := 6) (I2 := i_X11_good) rfl dL_good_4 ml_L_87 sh_0 (by decide) rfl rfl rfl rfl rfl cw_A ⟨3, Or.inl ⟨3, rfl, dL_good_12, rfl⟩, by decide, rfl, fun j u h1 h2 => by obtain rfl : j = 2 := (by omega); cases h2; decide⟩ rfl rfl rfl (ac_M.imp (o_X11_good _ p1 (ee_good H)) ?_)
  rintro _ _ (⟨r, s1, rfl, rfl, H⟩ | ⟨E, s1, rfl, rfl, hE, H⟩)
  · show ac_X g i_L_good (d + 3) 1 6 (lwQ τ thA Q X) (0 + 1) (0 + 6) 7 [some (.ref 0), some (.int p1), some (.ref 585), none] [.int r, .int 0, .ref 585] (false, 586, SH, s1, τ)
    refine ax_i2l (pc' := 8) dL_good_7 rfl ?_
    refine ax_last (pc' := 9) dL_good_8 sh_585 (ac_in (by decide)) rfl rfl ?_
    refine ax_goto (tgt := 15) dL_good_9 (by decide) ?_
    refine ax_iconst (pc' := 16) (v := (0 : Int32)) dL_good_15 (by decide) rfl ?_
    exact ax_iret dL_good_16 rfl rfl rfl (Or.inl ⟨r, s1, rfl, rfl, H⟩)
  · subst hE
    refine ⟨rfl, ?_⟩
    show ac_X g i_L_good (d + 3) 1 6 (lwQ τ thA Q X) (0 + 1) (0 + 6) 13 [some (.ref 0), some (.int p1), some (.ref 585), none] [] (false, 586, SH, s1, τ)
    refine ax_iconst (pc' := 14) (v := (1 : Int32)) dL_good_13 (by decide) rfl ?_
    exact ax_iret dL_good_14 rfl rfl rfl (Or.inr ⟨_, _, s1, rfl, rfl, ⟨rfl, rfl⟩, H⟩)
theorem o_L_kind {g : ac_G} {τ : Nat → Nat → Int64} (d : Nat) (p1 : Int32) {Q : Int32 → ac_m → Prop} {X : String → ac_m → Prop} {s : ac_m} (H : w_X11_kind p1 Q X s) : ac_M g i_L_kind (d + 3) 1 6 [.ref 0, .int p1, .ref 585] (false, 586, SH, s, τ) (lwQ τ thA Q X) := by
  refine ac_ofX (L0 := [some (.ref 0), some (.int p1), some (.ref 585), none]) (by decide +kernel) rfl rfl rfl ?_
  refine ax_aload_n (pc' := 1) dL_kind_0 rfl rfl ?_
  refine ax_iconst (pc' := 2) (v := (0 : Int32)) dL_kind_1 (by decide) rfl ?_
  refine ax_aload_n (pc' := 3) dL_kind_2 rfl rfl ?_
  refine ax_iload_n (pc' := 4) dL_kind_3 rfl rfl ?_
  refine ax_try1 (a := 0) (As := [.int p1]) (S := [.int 0, .ref 585]) (hp := 13) (C := "java/lang/IllegalArgumentException") (mc2 := 1) (ms2 := 6) (I2 := i_X11_kind) rfl dL_kind_4 ml_L_90 sh_0 (by decide) rfl rfl rfl rfl rfl cw_A ⟨3, Or.inl ⟨3, rfl, dL_kind_12, rfl⟩, by decide, rfl, fun j u h1 h2 => by obtain rfl : j = 2 := (by omega); cases h2; decide⟩ rfl rfl rfl (ac_M.imp (o_X11_kind _ p1 (ee_kind H)) ?_)
  rintro _ _ (⟨r, s1, rfl, rfl, H⟩ | ⟨E, s1, rfl, rfl, hE, H⟩)
  · show ac_X g i_L_kind (d + 3) 1 6 (lwQ τ thA Q X) (0 + 1) (0 + 6) 7 [some (.ref 0), some (.int p1), some (.ref 585), none] [.int r, .int 0, .ref 585] (false, 586, SH, s1, τ)
    refine ax_i2l (pc' := 8) dL_kind_7 rfl ?_
    refine ax_last (pc' := 9) dL_kind_8 sh_585 (ac_in (by decide)) rfl rfl ?_
    refine ax_goto (tgt := 15) dL_kind_9 (by decide) ?_
    refine ax_iconst (pc' := 16) (v := (0 : Int32)) dL_kind_15 (by decide) rfl ?_
    exact ax_iret dL_kind_16 rfl rfl rfl (Or.inl ⟨r, s1, rfl, rfl, H⟩)
  · subst hE
    refine ⟨rfl, ?_⟩
    show ac_X g i_L_kind (d + 3) 1 6 (lwQ τ thA Q X) (0 + 1) (0 + 6) 13 [some (.ref 0), some (.int p1), some (.ref 585), none] [] (false, 586, SH, s1, τ)
    refine ax_iconst (pc' := 14) (v := (1 : Int32)) dL_kind_13 (by decide) rfl ?_
    exact ax_iret dL_kind_14 rfl rfl rfl (Or.inr ⟨_, _, s1, rfl, rfl, ⟨rfl, rfl⟩, H⟩)
theorem o_L_weighs {g : ac_G} {τ : Nat → Nat → Int64} (d : Nat) (p1 : Int32) (p2 : Int32) {Q : Int32 → ac_m → Prop} {X : String → ac_m → Prop} {s : ac_m} (H : w_X11_weighs p1 p2 Q X s) : ac_M g i_L_weighs (d + 3) 2 12 [.ref 0, .int p1, .int p2, .ref 585] (false, 586, SH, s, τ) (lwQ τ thB Q X) := by
  refine ac_ofX (L0 := [some (.ref 0), some (.int p1), some (.int p2), some (.ref 585), none]) (by decide +kernel) rfl rfl rfl ?_
  refine ax_aload_n (pc' := 1) dL_weighs_0 rfl rfl ?_
  refine ax_iconst (pc' := 2) (v := (0 : Int32)) dL_weighs_1 (by decide) rfl ?_
  refine ax_aload_n (pc' := 3) dL_weighs_2 rfl rfl ?_
  refine ax_iload_n (pc' := 4) dL_weighs_3 rfl rfl ?_
  refine ax_iload_n (pc' := 5) dL_weighs_4 rfl rfl ?_
  refine ax_try2 (a := 0) (As := [.int p1, .int p2]) (S := [.int 0, .ref 585]) (hp1 := 15) (hp2 := 19) (mc2 := 2) (ms2 := 12) (I2 := i_X11_weighs) rfl dL_weighs_5 ml_L_93 sh_0 (by decide) rfl rfl rfl rfl rfl cw_N cw_A ⟨4, Or.inr ⟨dL_weighs_13, rfl⟩, by decide, rfl, fun j u h1 h2 => by obtain rfl : j = 3 := (by omega); cases h2; decide⟩ ⟨4, Or.inr ⟨dL_weighs_17, rfl⟩, by decide, rfl, fun j u h1 h2 => by obtain rfl : j = 3 := (by omega); cases h2; decide⟩ rfl rfl rfl (ac_M.imp (o_X11_weighs _ p1 p2 (ee_weighs H)) ?_)
  rintro _ _ (⟨r, s1, rfl, rfl, H⟩ | ⟨E, s1, rfl, rfl, hE, H⟩)
  · show ac_X g i_L_weighs (d + 3) 2 12 (lwQ τ thB Q X) (0 + 2) (0 + 12) 8 [some (.ref 0), some (.int p1), some (.int p2), some (.ref 585), none] [.int r, .int 0, .ref 585] (false, 586, SH, s1, τ)
    refine ax_i2l (pc' := 9) dL_weighs_8 rfl ?_
    refine ax_last (pc' := 10) dL_weighs_9 sh_585 (ac_in (by decide)) rfl rfl ?_
    refine ax_goto (tgt := 21) dL_weighs_10 (by decide) ?_
    refine ax_iconst (pc' := 22) (v := (0 : Int32)) dL_weighs_21 (by decide) rfl ?_
    exact ax_iret dL_weighs_22 rfl rfl rfl (Or.inl ⟨r, s1, rfl, rfl, H⟩)
  · rcases hE with rfl | rfl
    · refine Or.inl ⟨rfl, ?_⟩
      show ac_X g i_L_weighs (d + 3) 2 12 (lwQ τ thB Q X) (0 + 2) (0 + 12) 15 [some (.ref 0), some (.int p1), some (.int p2), some (.ref 585), none] [] (false, 586, SH, s1, τ)
      refine ax_iconst (pc' := 16) (v := (1 : Int32)) dL_weighs_15 (by decide) rfl ?_
      exact ax_iret dL_weighs_16 rfl rfl rfl (Or.inr ⟨_, _, s1, rfl, rfl, Or.inl ⟨rfl, rfl⟩, H⟩)
    · refine Or.inr ⟨rfl, ?_⟩
      show ac_X g i_L_weighs (d + 3) 2 12 (lwQ τ thB Q X) (0 + 2) (0 + 12) 19 [some (.ref 0), some (.int p1), some (.int p2), some (.ref 585), none] [] (false, 586, SH, s1, τ)
      refine ax_iconst (pc' := 20) (v := (2 : Int32)) dL_weighs_19 (by decide) rfl ?_
      exact ax_iret dL_weighs_20 rfl rfl rfl (Or.inr ⟨_, _, s1, rfl, rfl, Or.inr ⟨rfl, rfl⟩, H⟩)
theorem o_L_lightest {g : ac_G} {τ : Nat → Nat → Int64} (d : Nat) (p1 : Int32) {Q : Int32 → ac_m → Prop} {X : String → ac_m → Prop} {s : ac_m} (H : w_X11_lightest p1 Q X s) : ac_M g i_L_lightest (d + 3) 1 6 [.ref 0, .int p1, .ref 585] (false, 586, SH, s, τ) (lwQ τ thA Q X) := by
  refine ac_ofX (L0 := [some (.ref 0), some (.int p1), some (.ref 585), none]) (by decide +kernel) rfl rfl rfl ?_
  refine ax_aload_n (pc' := 1) dL_lightest_0 rfl rfl ?_
  refine ax_iconst (pc' := 2) (v := (0 : Int32)) dL_lightest_1 (by decide) rfl ?_
  refine ax_aload_n (pc' := 3) dL_lightest_2 rfl rfl ?_
  refine ax_iload_n (pc' := 4) dL_lightest_3 rfl rfl ?_
  refine ax_try1 (a := 0) (As := [.int p1]) (S := [.int 0, .ref 585]) (hp := 13) (C := "java/lang/IllegalArgumentException") (mc2 := 1) (ms2 := 6) (I2 := i_X11_lightest) rfl dL_lightest_4 ml_L_96 sh_0 (by decide) rfl rfl rfl rfl rfl cw_A ⟨3, Or.inl ⟨3, rfl, dL_lightest_12, rfl⟩, by decide, rfl, fun j u h1 h2 => by obtain rfl : j = 2 := (by omega); cases h2; decide⟩ rfl rfl rfl (ac_M.imp (o_X11_lightest _ p1 (ee_lightest H)) ?_)
  rintro _ _ (⟨r, s1, rfl, rfl, H⟩ | ⟨E, s1, rfl, rfl, hE, H⟩)
  · show ac_X g i_L_lightest (d + 3) 1 6 (lwQ τ thA Q X) (0 + 1) (0 + 6) 7 [some (.ref 0), some (.int p1), some (.ref 585), none] [.int r, .int 0, .ref 585] (false, 586, SH, s1, τ)
    refine ax_i2l (pc' := 8) dL_lightest_7 rfl ?_
    refine ax_last (pc' := 9) dL_lightest_8 sh_585 (ac_in (by decide)) rfl rfl ?_
    refine ax_goto (tgt := 15) dL_lightest_9 (by decide) ?_
    refine ax_iconst (pc' := 16) (v := (0 : Int32)) dL_lightest_15 (by decide) rfl ?_
    exact ax_iret dL_lightest_16 rfl rfl rfl (Or.inl ⟨r, s1, rfl, rfl, H⟩)
  · subst hE
    refine ⟨rfl, ?_⟩
    show ac_X g i_L_lightest (d + 3) 1 6 (lwQ τ thA Q X) (0 + 1) (0 + 6) 13 [some (.ref 0), some (.int p1), some (.ref 585), none] [] (false, 586, SH, s1, τ)
    refine ax_iconst (pc' := 14) (v := (1 : Int32)) dL_lightest_13 (by decide) rfl ?_
    exact ax_iret dL_lightest_14 rfl rfl rfl (Or.inr ⟨_, _, s1, rfl, rfl, ⟨rfl, rfl⟩, H⟩)
theorem o_L_coolest {g : ac_G} {τ : Nat → Nat → Int64} (d : Nat) (p1 : Int32) {Q : Int32 → ac_m → Prop} {X : String → ac_m → Prop} {s : ac_m} (H : w_X11_coolest p1 Q X s) : ac_M g i_L_coolest (d + 3) 1 6 [.ref 0, .int p1, .ref 585] (false, 586, SH, s, τ) (lwQ τ thA Q X) := by
  refine ac_ofX (L0 := [some (.ref 0), some (.int p1), some (.ref 585), none]) (by decide +kernel) rfl rfl rfl ?_
  refine ax_aload_n (pc' := 1) dL_coolest_0 rfl rfl ?_
  refine ax_iconst (pc' := 2) (v := (0 : Int32)) dL_coolest_1 (by decide) rfl ?_
  refine ax_aload_n (pc' := 3) dL_coolest_2 rfl rfl ?_
  refine ax_iload_n (pc' := 4) dL_coolest_3 rfl rfl ?_
  refine ax_try1 (a := 0) (As := [.int p1]) (S := [.int 0, .ref 585]) (hp := 13) (C := "java/lang/IllegalArgumentException") (mc2 := 1) (ms2 := 6) (I2 := i_X11_coolest) rfl dL_coolest_4 ml_L_99 sh_0 (by decide) rfl rfl rfl rfl rfl cw_A ⟨3, Or.inl ⟨3, rfl, dL_coolest_12, rfl⟩, by decide, rfl, fun j u h1 h2 => by obtain rfl : j = 2 := (by omega); cases h2; decide⟩ rfl rfl rfl (ac_M.imp (o_X11_coolest _ p1 (ee_coolest H)) ?_)
  rintro _ _ (⟨r, s1, rfl, rfl, H⟩ | ⟨E, s1, rfl, rfl, hE, H⟩)
  · show ac_X g i_L_coolest (d + 3) 1 6 (lwQ τ thA Q X) (0 + 1) (0 + 6) 7 [some (.ref 0), some (.int p1), some (.ref 585), none] [.int r, .int 0, .ref 585] (false, 586, SH, s1, τ)
    refine ax_i2l (pc' := 8) dL_coolest_7 rfl ?_
    refine ax_last (pc' := 9) dL_coolest_8 sh_585 (ac_in (by decide)) rfl rfl ?_
    refine ax_goto (tgt := 15) dL_coolest_9 (by decide) ?_
    refine ax_iconst (pc' := 16) (v := (0 : Int32)) dL_coolest_15 (by decide) rfl ?_
    exact ax_iret dL_coolest_16 rfl rfl rfl (Or.inl ⟨r, s1, rfl, rfl, H⟩)
  · subst hE
    refine ⟨rfl, ?_⟩
    show ac_X g i_L_coolest (d + 3) 1 6 (lwQ τ thA Q X) (0 + 1) (0 + 6) 13 [some (.ref 0), some (.int p1), some (.ref 585), none] [] (false, 586, SH, s1, τ)
    refine ax_iconst (pc' := 14) (v := (1 : Int32)) dL_coolest_13 (by decide) rfl ?_
    exact ax_iret dL_coolest_14 rfl rfl rfl (Or.inr ⟨_, _, s1, rfl, rfl, ⟨rfl, rfl⟩, H⟩)
theorem o_L_round {g : ac_G} {τ : Nat → Nat → Int64} (d : Nat) (p1 : Int32) {Q : Int32 → ac_m → Prop} {X : String → ac_m → Prop} {s : ac_m} (H : w_X11_round p1 Q X s) : ac_M g i_L_round (d + 3) 1 6 [.ref 0, .int p1, .ref 585] (false, 586, SH, s, τ) (lwQ τ thN Q X) := by
  refine ac_ofX (L0 := [some (.ref 0), some (.int p1), some (.ref 585), none]) (by decide +kernel) rfl rfl rfl ?_
  refine ax_aload_n (pc' := 1) dL_round_0 rfl rfl ?_
  refine ax_iconst (pc' := 2) (v := (0 : Int32)) dL_round_1 (by decide) rfl ?_
  refine ax_aload_n (pc' := 3) dL_round_2 rfl rfl ?_
  refine ax_iload_n (pc' := 4) dL_round_3 rfl rfl ?_
  refine ax_try1 (a := 0) (As := [.int p1]) (S := [.int 0, .ref 585]) (hp := 13) (C := "java/util/NoSuchElementException") (mc2 := 1) (ms2 := 6) (I2 := i_X11_round) rfl dL_round_4 ml_L_102 sh_0 (by decide) rfl rfl rfl rfl rfl cw_N ⟨3, Or.inl ⟨3, rfl, dL_round_12, rfl⟩, by decide, rfl, fun j u h1 h2 => by obtain rfl : j = 2 := (by omega); cases h2; decide⟩ rfl rfl rfl (ac_M.imp (o_X11_round _ p1 (ee_round H)) ?_)
  rintro _ _ (⟨r, s1, rfl, rfl, H⟩ | ⟨E, s1, rfl, rfl, hE, H⟩)
  · show ac_X g i_L_round (d + 3) 1 6 (lwQ τ thN Q X) (0 + 1) (0 + 6) 7 [some (.ref 0), some (.int p1), some (.ref 585), none] [.int r, .int 0, .ref 585] (false, 586, SH, s1, τ)
    refine ax_i2l (pc' := 8) dL_round_7 rfl ?_
    refine ax_last (pc' := 9) dL_round_8 sh_585 (ac_in (by decide)) rfl rfl ?_
    refine ax_goto (tgt := 15) dL_round_9 (by decide) ?_
    refine ax_iconst (pc' := 16) (v := (0 : Int32)) dL_round_15 (by decide) rfl ?_
    exact ax_iret dL_round_16 rfl rfl rfl (Or.inl ⟨r, s1, rfl, rfl, H⟩)
  · subst hE
    refine ⟨rfl, ?_⟩
    show ac_X g i_L_round (d + 3) 1 6 (lwQ τ thN Q X) (0 + 1) (0 + 6) 13 [some (.ref 0), some (.int p1), some (.ref 585), none] [] (false, 586, SH, s1, τ)
    refine ax_iconst (pc' := 14) (v := (1 : Int32)) dL_round_13 (by decide) rfl ?_
    exact ax_iret dL_round_14 rfl rfl rfl (Or.inr ⟨_, _, s1, rfl, rfl, ⟨rfl, rfl⟩, H⟩)
theorem o_L_decade {g : ac_G} {τ : Nat → Nat → Int64} (d : Nat) (p1 : Int32) (p2 : Int32) (p3 : Int32) (p4 : Int32) {Q : Int32 → ac_m → Prop} {X : String → ac_m → Prop} {s : ac_m} (H : w_X11_decade p1 p2 p3 p4 Q X s) : ac_M g i_L_decade (d + 7) 3 18 [.ref 0, .int p1, .int p2, .int p3, .int p4, .ref 585] (false, 586, SH, s, τ) (lwQ τ thA Q X) := by
  refine ac_ofX (L0 := [some (.ref 0), some (.int p1), some (.int p2), some (.int p3), some (.int p4), some (.ref 585), none]) (by decide +kernel) rfl rfl rfl ?_
  refine ax_aload (pc' := 2) dL_decade_0 rfl rfl ?_
  refine ax_iconst (pc' := 3) (v := (0 : Int32)) dL_decade_2 (by decide) rfl ?_
  refine ax_aload_n (pc' := 4) dL_decade_3 rfl rfl ?_
  refine ax_iload_n (pc' := 5) dL_decade_4 rfl rfl ?_
  refine ax_iload_n (pc' := 6) dL_decade_5 rfl rfl ?_
  refine ax_iload_n (pc' := 7) dL_decade_6 rfl rfl ?_
  refine ax_iload (pc' := 9) dL_decade_7 rfl rfl ?_
  refine ax_try1 (a := 0) (As := [.int p1, .int p2, .int p3, .int p4]) (S := [.int 0, .ref 585]) (hp := 19) (C := "java/lang/IllegalArgumentException") (mc2 := 3) (ms2 := 18) (I2 := i_X11_decade) rfl dL_decade_9 ml_L_105 sh_0 (by decide) rfl rfl rfl rfl rfl cw_A ⟨6, Or.inr ⟨dL_decade_17, rfl⟩, by decide, rfl, fun j u h1 h2 => by obtain rfl : j = 5 := (by omega); cases h2; decide⟩ rfl rfl rfl (ac_M.imp (o_X11_decade _ p1 p2 p3 p4 (ee_decade H)) ?_)
  rintro _ _ (⟨r, s1, rfl, rfl, H⟩ | ⟨E, s1, rfl, rfl, hE, H⟩)
  · show ac_X g i_L_decade (d + 7) 3 18 (lwQ τ thA Q X) (0 + 3) (0 + 18) 12 [some (.ref 0), some (.int p1), some (.int p2), some (.int p3), some (.int p4), some (.ref 585), none] [.int r, .int 0, .ref 585] (false, 586, SH, s1, τ)
    refine ax_i2l (pc' := 13) dL_decade_12 rfl ?_
    refine ax_last (pc' := 14) dL_decade_13 sh_585 (ac_in (by decide)) rfl rfl ?_
    refine ax_goto (tgt := 21) dL_decade_14 (by decide) ?_
    refine ax_iconst (pc' := 22) (v := (0 : Int32)) dL_decade_21 (by decide) rfl ?_
    exact ax_iret dL_decade_22 rfl rfl rfl (Or.inl ⟨r, s1, rfl, rfl, H⟩)
  · subst hE
    refine ⟨rfl, ?_⟩
    show ac_X g i_L_decade (d + 7) 3 18 (lwQ τ thA Q X) (0 + 3) (0 + 18) 19 [some (.ref 0), some (.int p1), some (.int p2), some (.int p3), some (.int p4), some (.ref 585), none] [] (false, 586, SH, s1, τ)
    refine ax_iconst (pc' := 20) (v := (1 : Int32)) dL_decade_19 (by decide) rfl ?_
    exact ax_iret dL_decade_20 rfl rfl rfl (Or.inr ⟨_, _, s1, rfl, rfl, ⟨rfl, rfl⟩, H⟩)
theorem o_L_span {g : ac_G} {τ : Nat → Nat → Int64} (d : Nat) (p1 : Int32) (p2 : Int32) (p3 : Int32) (p4 : Int32) (p5 : Int32) (p6 : Int32) {Q : Int32 → ac_m → Prop} {X : String → ac_m → Prop} {s : ac_m} (H : w_X11_span p1 p2 p3 p4 p5 p6 Q X s) : ac_M g i_L_span (d + 7) 5 30 [.ref 0, .int p1, .int p2, .int p3, .int p4, .int p5, .int p6, .ref 585] (false, 586, SH, s, τ) (lwQ τ thA Q X) := by
  refine ac_ofX (L0 := [some (.ref 0), some (.int p1), some (.int p2), some (.int p3), some (.int p4), some (.int p5), some (.int p6), some (.ref 585), none]) (by decide +kernel) rfl rfl rfl ?_
  refine ax_aload (pc' := 2) dL_span_0 rfl rfl ?_
  refine ax_iconst (pc' := 3) (v := (0 : Int32)) dL_span_2 (by decide) rfl ?_
  refine ax_aload_n (pc' := 4) dL_span_3 rfl rfl ?_
  refine ax_iload_n (pc' := 5) dL_span_4 rfl rfl ?_
  refine ax_iload_n (pc' := 6) dL_span_5 rfl rfl ?_
  refine ax_iload_n (pc' := 7) dL_span_6 rfl rfl ?_
  refine ax_iload (pc' := 9) dL_span_7 rfl rfl ?_
  refine ax_iload (pc' := 11) dL_span_9 rfl rfl ?_
  refine ax_iload (pc' := 13) dL_span_11 rfl rfl ?_
  refine ax_try1 (a := 0) (As := [.int p1, .int p2, .int p3, .int p4, .int p5, .int p6]) (S := [.int 0, .ref 585]) (hp := 23) (C := "java/lang/IllegalArgumentException") (mc2 := 5) (ms2 := 30) (I2 := i_X11_span) rfl dL_span_13 ml_L_109 sh_0 (by decide) rfl rfl rfl rfl rfl cw_A ⟨8, Or.inr ⟨dL_span_21, rfl⟩, by decide, rfl, fun j u h1 h2 => by obtain rfl : j = 7 := (by omega); cases h2; decide⟩ rfl rfl rfl (ac_M.imp (o_X11_span _ p1 p2 p3 p4 p5 p6 (ee_span H)) ?_)
  rintro _ _ (⟨r, s1, rfl, rfl, H⟩ | ⟨E, s1, rfl, rfl, hE, H⟩)
  · show ac_X g i_L_span (d + 7) 5 30 (lwQ τ thA Q X) (0 + 5) (0 + 30) 16 [some (.ref 0), some (.int p1), some (.int p2), some (.int p3), some (.int p4), some (.int p5), some (.int p6), some (.ref 585), none] [.int r, .int 0, .ref 585] (false, 586, SH, s1, τ)
    refine ax_i2l (pc' := 17) dL_span_16 rfl ?_
    refine ax_last (pc' := 18) dL_span_17 sh_585 (ac_in (by decide)) rfl rfl ?_
    refine ax_goto (tgt := 25) dL_span_18 (by decide) ?_
    refine ax_iconst (pc' := 26) (v := (0 : Int32)) dL_span_25 (by decide) rfl ?_
    exact ax_iret dL_span_26 rfl rfl rfl (Or.inl ⟨r, s1, rfl, rfl, H⟩)
  · subst hE
    refine ⟨rfl, ?_⟩
    show ac_X g i_L_span (d + 7) 5 30 (lwQ τ thA Q X) (0 + 5) (0 + 30) 23 [some (.ref 0), some (.int p1), some (.int p2), some (.int p3), some (.int p4), some (.int p5), some (.int p6), some (.ref 585), none] [] (false, 586, SH, s1, τ)
    refine ax_iconst (pc' := 24) (v := (1 : Int32)) dL_span_23 (by decide) rfl ?_
    exact ax_iret dL_span_24 rfl rfl rfl (Or.inr ⟨_, _, s1, rfl, rfl, ⟨rfl, rfl⟩, H⟩)
