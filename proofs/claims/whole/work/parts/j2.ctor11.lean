theorem c_plainA {a : Nat} {Q : ac_m → Prop} {s : ac_m} (h : ∀ s', (∀ y, y ≠ a → y ≠ a + 1 → s' y = s y) → s' a 3 = 5 → s' (a + 1) 0 = 1 → s' (a + 1) 1 = -1 → s' (a + 1) 2 = 10 → s' (a + 1) 3 = -12 → s' (a + 1) 4 = -9 → Q s') : w_X4_setPlain a Q s := by
  unfold w_X4_setPlain
  refine c_put1 (c := 0) u_eq (by omega) (fun s1 f1 e1 g1 v1 => ?_)
  refine c_put1 (c := 1) e1 (by omega) (fun s2 f2 e2 g2 v2 => ?_)
  refine c_put1 (c := 2) e2 (by omega) (fun s3 f3 e3 g3 v3 => ?_)
  refine c_put1 (c := 3) e3 (by omega) (fun s4 f4 e4 g4 v4 => ?_)
  refine c_put1 (c := 4) e4 (by omega) (fun s5 f5 e5 g5 v5 => ?_)
  refine h s5 (fun y y1 y2 => by rw [f5 y y1 y2, f4 y y1 y2, f3 y y1 y2, f2 y y1 y2, f1 y y1 y2, u_ne y1]) e5 ?_ ?_ ?_ ?_ v5
  · rw [g5 0 (by omega), g4 0 (by omega), g3 0 (by omega), g2 0 (by omega)]; exact v1
  · rw [g5 1 (by omega), g4 1 (by omega), g3 1 (by omega)]; exact v2
  · rw [g5 2 (by omega), g4 2 (by omega)]; exact v3
  · rw [g5 3 (by omega)]; exact v4
theorem c_clearA {a : Nat} {Q : ac_m → Prop} {s : ac_m} (h0 : s a = fun _ => 0) (h : ∀ s', (∀ y, y ≠ a + 1 → s' y = s y) → (∀ j, j < 13 → s' (a + 1) j = -1) → Q s') : w_X0_clear a Q s := by
  unfold w_X0_clear
  refine c_fill (by omega) (fun s1 f1 g1 => ?_)
  rw [us0 (by rw [f1 a (by omega)]; exact h0)]
  exact h s1 f1 g1
/-- the ints behind the class's own constructor -/
def ZF (s : ac_m) : Prop := (∀ y, (y ≠ 1 ∧ y ≠ 62 ∧ y ≠ 65 ∧ y ≠ 25 ∧ y ≠ 26 ∧ y ≠ 29 ∧ y ≠ 30 ∧ y ≠ 34 ∧ y ≠ 36 ∧ y ≠ 45 ∧ y ≠ 53) → s y = fun _ => 0) ∧ s 25 3 = 5 ∧ (s 26 0 = 1 ∧ s 26 1 = -1 ∧ s 26 2 = 10 ∧ s 26 3 = -12 ∧ s 26 4 = -9) ∧ (∀ j, j < 13 → s 34 j = -1) ∧ (∀ j, j < 13 → s 45 j = -1) ∧ s 1 1 = 0 ∧ s 1 6 = -1
theorem no_X11_9 : ac_No RX11 9 9 [some Value.null, none, none, none, none, none, none] := ⟨RX10, TX10, 7, tyX10, rfl, (ac_at 137 (by decide +kernel) (by decide +kernel)), (ac_at 138 (by decide +kernel) (by decide +kernel)), (ac_at 104 (by decide +kernel) (by decide +kernel)), in_X10, tyX10_ok, by decide +kernel, rfl⟩
theorem no_X11_16 : ac_No RX11 16 3 [some Value.null, some Value.null, some Value.null, some Value.null, some Value.null, some Value.null, some Value.null, some Value.null, some Value.null, some Value.null, none, none, none] := ⟨RX3, TX3, 13, tyX3, rfl, (ac_at 172 (by decide +kernel) (by decide +kernel)), (ac_at 173 (by decide +kernel) (by decide +kernel)), (ac_at 105 (by decide +kernel) (by decide +kernel)), in_X3, tyX3_ok, by decide +kernel, rfl⟩
theorem no_X11_26 : ac_No RX11 26 4 [some Value.null, some Value.null, some Value.null, none] := ⟨RX4, TX4, 4, tyX4, rfl, (ac_at 234 (by decide +kernel) (by decide +kernel)), (ac_at 235 (by decide +kernel) (by decide +kernel)), (ac_at 106 (by decide +kernel) (by decide +kernel)), in_X4, tyX4_ok, by decide +kernel, rfl⟩
theorem no_X11_36 : ac_No RX11 36 0 [some Value.null, none] := ⟨RX0, TX0, 2, tyX0, rfl, (ac_at 261 (by decide +kernel) (by decide +kernel)), (ac_at 262 (by decide +kernel) (by decide +kernel)), (ac_at 107 (by decide +kernel) (by decide +kernel)), in_X0, tyX0_ok, by decide +kernel, rfl⟩
theorem no_X11_46 : ac_No RX11 46 7 [some Value.null, some Value.null, some Value.null, some Value.null, none, none, none, none] := ⟨RX7, TX7, 8, tyX7, rfl, (ac_at 282 (by decide +kernel) (by decide +kernel)), (ac_at 283 (by decide +kernel) (by decide +kernel)), (ac_at 109 (by decide +kernel) (by decide +kernel)), in_X7, tyX7_ok, by decide +kernel, rfl⟩
theorem no_X11_53 : ac_No RX11 53 5 [some Value.null, some Value.null, some Value.null, some Value.null, some Value.null, some Value.null, some Value.null, some Value.null, some Value.null, none, none, none] := ⟨RX5, TX5, 12, tyX5, rfl, (ac_at 316 (by decide +kernel) (by decide +kernel)), (ac_at 317 (by decide +kernel) (by decide +kernel)), (ac_at 110 (by decide +kernel) (by decide +kernel)), in_X5, tyX5_ok, by decide +kernel, rfl⟩
theorem no_X11_65 : ac_No RX11 65 6 [some Value.null, some Value.null, some Value.null, none, none] := ⟨RX6, TX6, 5, tyX6, rfl, (ac_at 365 (by decide +kernel) (by decide +kernel)), (ac_at 366 (by decide +kernel) (by decide +kernel)), (ac_at 111 (by decide +kernel) (by decide +kernel)), in_X6, tyX6_ok, by decide +kernel, rfl⟩
theorem no_X11_72 : ac_No RX11 72 2 [some Value.null, some Value.null, some Value.null, some Value.null, none, none] := ⟨RX2, TX2, 6, tyX2, rfl, (ac_at 389 (by decide +kernel) (by decide +kernel)), (ac_at 390 (by decide +kernel) (by decide +kernel)), (ac_at 112 (by decide +kernel) (by decide +kernel)), in_X2, tyX2_ok, by decide +kernel, rfl⟩
theorem no_X11_81 : ac_No RX11 81 8 [some Value.null, some Value.null, some Value.null, some Value.null, some Value.null, none, none, none, none] := ⟨RX9, TX9, 9, tyX9, rfl, (ac_at 416 (by decide +kernel) (by decide +kernel)), (ac_at 417 (by decide +kernel) (by decide +kernel)), (ac_at 113 (by decide +kernel) (by decide +kernel)), in_X9, tyX9_ok, by decide +kernel, rfl⟩
theorem no_X11_90 : ac_No RX11 90 1 [some Value.null, some Value.null, some Value.null, none] := ⟨RX1, TX1, 4, tyX1, rfl, (ac_at 454 (by decide +kernel) (by decide +kernel)), (ac_at 455 (by decide +kernel) (by decide +kernel)), (ac_at 114 (by decide +kernel) (by decide +kernel)), in_X1, tyX1_ok, by decide +kernel, rfl⟩
theorem k_X11 {g : ac_G} {τ : Nat → Nat → Int64} (d : Nat) {Q : ac_O → ac_W → Prop} {σ : ac_m} (hz : ∀ y, y = y → σ y = fun _ => 0) (hE : ∀ E w, ¬ Q (.inr E) w) (H : ∀ s, ZF s → Q (.inl none) (true, 69, SH, s, τ)) : ac_M g i_X11_init (d + 3) 68 13328 [.ref 0] (true, 1, MX 1 0, σ, τ) Q := by
  refine ac_ofX (by decide +kernel) rfl rfl rfl ?_
  refine ax_aload_n (pc' := 1) dX11_init_0 rfl rfl ?_
  refine ax_obj0 (pc' := 4) dX11_init_1 oi_X11 oi_2 oi_3 rfl rfl ?_
  refine ax_aload_n (pc' := 5) dX11_init_4 rfl rfl ?_
  refine ax_newO (pc' := 8) dX11_init_5 no_X11_9 (by decide +kernel) (hz 1 (by decide)) rfl rfl rfl rfl ?_
  refine ax_dup (pc' := 9) dX11_init_8 rfl rfl ?_
  refine ax_invIN (host := "FavourBeasts") (a := 1) (As := []) (mc2 := 1) (ms2 := 600) (I2 := i_X10_init) rfl dX11_init_9 (List.mem_of_getElem? (i := 139) (by decide +kernel)) (ix_X10 _ _) rfl rfl hE rfl rfl rfl (k_X10_1 _ (fun y y1 y2 => hz y (by omega)) ?_)
  have hn1 : ∀ y, (y ≠ 1) → (ac_u σ 1 6 (-1)) y = fun _ => 0 := fun y hy => by rw [u_ne (by omega)]; exact hz y (by omega)
  show ac_X g i_X11_init (d + 3) 68 13328 Q 2 607 12 [some (.ref 0)] [.ref 1, .ref 0] (true, 3, MX 3 0, (ac_u σ 1 6 (-1)), τ)
  refine ax_putR (pc' := 15) dX11_init_12 fp_X11_12 rfl (fun _ => rfl) (fun _ => rfl) (show MX 3 0 0 = .inr (10, [some Value.null, some Value.null, some Value.null, some Value.null, some Value.null, some Value.null, some Value.null, some Value.null, some Value.null, some Value.null, some Value.null, some Value.null, some Value.null, some Value.null, none, none, none]) by decide +kernel) rfl rfl rfl ?_
  refine ax_same (sh' := MX 3 1) (by decide +kernel) ?_
  refine ax_aload_n (pc' := 16) dX11_init_15 rfl rfl ?_
  refine ax_newO (pc' := 19) dX11_init_16 no_X11_16 (by decide +kernel) (hn1 3 (by decide)) rfl rfl rfl rfl ?_
  refine ax_dup (pc' := 20) dX11_init_19 rfl rfl ?_
  refine ax_invIN (host := "FavourBeasts") (a := 3) (As := []) (mc2 := 10) (ms2 := 100) (I2 := i_X3_init) rfl dX11_init_20 (List.mem_of_getElem? (i := 174) (by decide +kernel)) (ix_X3 _ _) rfl rfl hE rfl rfl rfl (k_X3_3 _ (fun y y1 y2 => hn1 y (by omega)) ?_)
  show ac_X g i_X11_init (d + 3) 68 13328 Q 13 720 23 [some (.ref 0)] [.ref 3, .ref 0] (true, 14, MX 14 1, (ac_u σ 1 6 (-1)), τ)
  refine ax_putR (pc' := 26) dX11_init_23 fp_X11_19 rfl (fun _ => rfl) (fun _ => rfl) (show MX 14 1 0 = .inr (10, [some (.ref 1), some Value.null, some Value.null, some Value.null, some Value.null, some Value.null, some Value.null, some Value.null, some Value.null, some Value.null, some Value.null, some Value.null, some Value.null, some Value.null, none, none, none]) by decide +kernel) rfl rfl rfl ?_
  refine ax_same (sh' := MX 14 2) (by decide +kernel) ?_
  refine ax_aload_n (pc' := 27) dX11_init_26 rfl rfl ?_
  refine ax_newO (pc' := 30) dX11_init_27 no_X11_16 (by decide +kernel) (hn1 14 (by decide)) rfl rfl rfl rfl ?_
  refine ax_dup (pc' := 31) dX11_init_30 rfl rfl ?_
  refine ax_invIN (host := "FavourBeasts") (a := 14) (As := []) (mc2 := 10) (ms2 := 100) (I2 := i_X3_init) rfl dX11_init_31 (List.mem_of_getElem? (i := 174) (by decide +kernel)) (ix_X3 _ _) rfl rfl hE rfl rfl rfl (k_X3_14 _ (fun y y1 y2 => hn1 y (by omega)) ?_)
  show ac_X g i_X11_init (d + 3) 68 13328 Q 24 833 34 [some (.ref 0)] [.ref 14, .ref 0] (true, 25, MX 25 2, (ac_u σ 1 6 (-1)), τ)
  refine ax_putR (pc' := 37) dX11_init_34 fp_X11_23 rfl (fun _ => rfl) (fun _ => rfl) (show MX 25 2 0 = .inr (10, [some (.ref 1), some (.ref 3), some Value.null, some Value.null, some Value.null, some Value.null, some Value.null, some Value.null, some Value.null, some Value.null, some Value.null, some Value.null, some Value.null, some Value.null, none, none, none]) by decide +kernel) rfl rfl rfl ?_
  refine ax_same (sh' := MX 25 3) (by decide +kernel) ?_
  refine ax_aload_n (pc' := 38) dX11_init_37 rfl rfl ?_
  refine ax_newO (pc' := 41) dX11_init_38 no_X11_26 (by decide +kernel) (hn1 25 (by decide)) rfl rfl rfl rfl ?_
  refine ax_dup (pc' := 42) dX11_init_41 rfl rfl ?_
  refine ax_invI (a := 25) (As := []) (mc2 := 3) (ms2 := 308) (I2 := i_X4_init) rfl dX11_init_42 (ac_at 236 (by decide +kernel) (by decide +kernel)) (ix_X4 _ _) rfl rfl hE rfl rfl rfl (k_X4_25 _ (fun y y1 y2 => hn1 y (by omega)) (c_plainA (fun s1 f1 a1 b1 c1 d1 e1 g1 => ?_)))
  have hz1 : ∀ y, (y ≠ 1 ∧ y ≠ 25 ∧ y ≠ 26) → s1 y = fun _ => 0 := fun y hy => by rw [f1 y (by omega) (by omega)]; exact hn1 y (by omega)
  show ac_X g i_X11_init (d + 3) 68 13328 Q 28 1145 45 [some (.ref 0)] [.ref 25, .ref 0] (true, 29, MX 29 3, s1, τ)
  refine ax_putR (pc' := 48) dX11_init_45 fp_X11_29 rfl (fun _ => rfl) (fun _ => rfl) (show MX 29 3 0 = .inr (10, [some (.ref 1), some (.ref 3), some (.ref 14), some Value.null, some Value.null, some Value.null, some Value.null, some Value.null, some Value.null, some Value.null, some Value.null, some Value.null, some Value.null, some Value.null, none, none, none]) by decide +kernel) rfl rfl rfl ?_
  refine ax_same (sh' := MX 29 4) (by decide +kernel) ?_
  refine ax_aload_n (pc' := 49) dX11_init_48 rfl rfl ?_
  refine ax_newO (pc' := 52) dX11_init_49 no_X11_26 (by decide +kernel) (hz1 29 (by decide)) rfl rfl rfl rfl ?_
  refine ax_dup (pc' := 53) dX11_init_52 rfl rfl ?_
  refine ax_invI (a := 29) (As := []) (mc2 := 3) (ms2 := 308) (I2 := i_X4_init) rfl dX11_init_53 (ac_at 236 (by decide +kernel) (by decide +kernel)) (ix_X4 _ _) rfl rfl hE rfl rfl rfl (k_X4_29 _ (fun y y1 y2 => hz1 y (by omega)) (c_plainA (fun s2 f2 a2 b2 c2 d2 e2 g2 => ?_)))
  have hz2 : ∀ y, (y ≠ 1 ∧ y ≠ 25 ∧ y ≠ 26 ∧ y ≠ 29 ∧ y ≠ 30) → s2 y = fun _ => 0 := fun y hy => by rw [f2 y (by omega) (by omega)]; exact hz1 y (by omega)
  show ac_X g i_X11_init (d + 3) 68 13328 Q 32 1457 56 [some (.ref 0)] [.ref 29, .ref 0] (true, 33, MX 33 4, s2, τ)
  refine ax_putR (pc' := 59) dX11_init_56 fp_X11_33 rfl (fun _ => rfl) (fun _ => rfl) (show MX 33 4 0 = .inr (10, [some (.ref 1), some (.ref 3), some (.ref 14), some (.ref 25), some Value.null, some Value.null, some Value.null, some Value.null, some Value.null, some Value.null, some Value.null, some Value.null, some Value.null, some Value.null, none, none, none]) by decide +kernel) rfl rfl rfl ?_
  refine ax_same (sh' := MX 33 5) (by decide +kernel) ?_
  refine ax_aload_n (pc' := 60) dX11_init_59 rfl rfl ?_
  refine ax_newO (pc' := 63) dX11_init_60 no_X11_36 (by decide +kernel) (hz2 33 (by decide)) rfl rfl rfl rfl ?_
  refine ax_dup (pc' := 64) dX11_init_63 rfl rfl ?_
  refine ax_invI (a := 33) (As := []) (mc2 := 1) (ms2 := 13) (I2 := i_X0_init) rfl dX11_init_64 (ac_at 263 (by decide +kernel) (by decide +kernel)) (ix_X0 _ _) rfl rfl hE rfl rfl rfl (k_X0_33 _ (fun y y1 y2 => hz2 y (by omega)) (c_clearA (hz2 33 (by decide)) (fun s3 f3 a3 => ?_)))
  have hz3 : ∀ y, (y ≠ 1 ∧ y ≠ 25 ∧ y ≠ 26 ∧ y ≠ 29 ∧ y ≠ 30 ∧ y ≠ 34) → s3 y = fun _ => 0 := fun y hy => by rw [f3 y (by omega)]; exact hz2 y (by omega)
  show ac_X g i_X11_init (d + 3) 68 13328 Q 34 1472 67 [some (.ref 0)] [.ref 33, .ref 0] (true, 35, MX 35 5, s3, τ)
  refine ax_putR (pc' := 70) dX11_init_67 fp_X11_39 rfl (fun _ => rfl) (fun _ => rfl) (show MX 35 5 0 = .inr (10, [some (.ref 1), some (.ref 3), some (.ref 14), some (.ref 25), some (.ref 29), some Value.null, some Value.null, some Value.null, some Value.null, some Value.null, some Value.null, some Value.null, some Value.null, some Value.null, none, none, none]) by decide +kernel) rfl rfl rfl ?_
  refine ax_same (sh' := MX 35 6) (by decide +kernel) ?_
  refine ax_aload_n (pc' := 71) dX11_init_70 rfl rfl ?_
  refine ax_newO (pc' := 74) dX11_init_71 no_X11_36 (by decide +kernel) (hz3 35 (by decide)) rfl rfl rfl rfl ?_
  refine ax_dup (pc' := 75) dX11_init_74 rfl rfl ?_
  refine ax_invI (a := 35) (As := []) (mc2 := 1) (ms2 := 13) (I2 := i_X0_init) rfl dX11_init_75 (ac_at 263 (by decide +kernel) (by decide +kernel)) (ix_X0 _ _) rfl rfl hE rfl rfl rfl (k_X0_35 _ (fun y y1 y2 => hz3 y (by omega)) (c_clearA (hz3 35 (by decide)) (fun s4 f4 a4 => ?_)))
  have hz4 : ∀ y, (y ≠ 1 ∧ y ≠ 25 ∧ y ≠ 26 ∧ y ≠ 29 ∧ y ≠ 30 ∧ y ≠ 34 ∧ y ≠ 36) → s4 y = fun _ => 0 := fun y hy => by rw [f4 y (by omega)]; exact hz3 y (by omega)
  show ac_X g i_X11_init (d + 3) 68 13328 Q 36 1487 78 [some (.ref 0)] [.ref 35, .ref 0] (true, 37, MX 37 6, s4, τ)
  refine ax_putR (pc' := 81) dX11_init_78 fp_X11_43 rfl (fun _ => rfl) (fun _ => rfl) (show MX 37 6 0 = .inr (10, [some (.ref 1), some (.ref 3), some (.ref 14), some (.ref 25), some (.ref 29), some (.ref 33), some Value.null, some Value.null, some Value.null, some Value.null, some Value.null, some Value.null, some Value.null, some Value.null, none, none, none]) by decide +kernel) rfl rfl rfl ?_
  refine ax_same (sh' := MX 37 7) (by decide +kernel) ?_
  refine ax_aload_n (pc' := 82) dX11_init_81 rfl rfl ?_
  refine ax_newO (pc' := 85) dX11_init_82 no_X11_46 (by decide +kernel) (hz4 37 (by decide)) rfl rfl rfl rfl ?_
  refine ax_dup (pc' := 86) dX11_init_85 rfl rfl ?_
  refine ax_invIN (host := "FavourBeasts") (a := 37) (As := []) (mc2 := 4) (ms2 := 600) (I2 := i_X7_init) rfl dX11_init_86 (List.mem_of_getElem? (i := 284) (by decide +kernel)) (ix_X7 _ _) rfl rfl hE rfl rfl rfl (k_X7_37 _ (fun y y1 y2 => hz4 y (by omega)) ?_)
  show ac_X g i_X11_init (d + 3) 68 13328 Q 41 2095 89 [some (.ref 0)] [.ref 37, .ref 0] (true, 42, MX 42 7, s4, τ)
  refine ax_putR (pc' := 92) dX11_init_89 fp_X11_49 rfl (fun _ => rfl) (fun _ => rfl) (show MX 42 7 0 = .inr (10, [some (.ref 1), some (.ref 3), some (.ref 14), some (.ref 25), some (.ref 29), some (.ref 33), some (.ref 35), some Value.null, some Value.null, some Value.null, some Value.null, some Value.null, some Value.null, some Value.null, none, none, none]) by decide +kernel) rfl rfl rfl ?_
  refine ax_same (sh' := MX 42 8) (by decide +kernel) ?_
  refine ax_aload_n (pc' := 93) dX11_init_92 rfl rfl ?_
  refine ax_newO (pc' := 96) dX11_init_93 no_X11_53 (by decide +kernel) (hz4 42 (by decide)) rfl rfl rfl rfl ?_
  refine ax_dup (pc' := 97) dX11_init_96 rfl rfl ?_
  refine ax_aload_n (pc' := 98) dX11_init_97 rfl rfl ?_
  refine ax_getR (pc' := 101) dX11_init_98 fl_X11_19 (show MX 42 8 0 = .inr (10, [some (.ref 1), some (.ref 3), some (.ref 14), some (.ref 25), some (.ref 29), some (.ref 33), some (.ref 35), some (.ref 37), some Value.null, some Value.null, some Value.null, some Value.null, some Value.null, some Value.null, none, none, none]) by decide +kernel) rfl rfl rfl ?_
  refine ax_aload_n (pc' := 102) dX11_init_101 rfl rfl ?_
  refine ax_getR (pc' := 105) dX11_init_102 fl_X11_29 (show MX 42 8 0 = .inr (10, [some (.ref 1), some (.ref 3), some (.ref 14), some (.ref 25), some (.ref 29), some (.ref 33), some (.ref 35), some (.ref 37), some Value.null, some Value.null, some Value.null, some Value.null, some Value.null, some Value.null, none, none, none]) by decide +kernel) rfl rfl rfl ?_
  refine ax_invI (a := 42) (As := [.ref 3, .ref 25]) (mc2 := 7) (ms2 := 100) (I2 := i_X5_init) rfl dX11_init_105 (ac_at 318 (by decide +kernel) (by decide +kernel)) (ix_X5 _ _) rfl rfl hE rfl rfl rfl (k_X5_42 _ (fun y y1 y2 => hz4 y (by omega)) (c_fill (by omega) (fun s5 f5 a5 => ?_)))
  have hz5 : ∀ y, (y ≠ 1 ∧ y ≠ 25 ∧ y ≠ 26 ∧ y ≠ 29 ∧ y ≠ 30 ∧ y ≠ 34 ∧ y ≠ 36 ∧ y ≠ 45) → s5 y = fun _ => 0 := fun y hy => by rw [f5 y (by omega)]; exact hz4 y (by omega)
  show ac_X g i_X11_init (d + 3) 68 13328 Q 49 2207 108 [some (.ref 0)] [.ref 42, .ref 0] (true, 50, MX 50 8, s5, τ)
  refine ax_putR (pc' := 111) dX11_init_108 fp_X11_58 rfl (fun _ => rfl) (fun _ => rfl) (show MX 50 8 0 = .inr (10, [some (.ref 1), some (.ref 3), some (.ref 14), some (.ref 25), some (.ref 29), some (.ref 33), some (.ref 35), some (.ref 37), some Value.null, some Value.null, some Value.null, some Value.null, some Value.null, some Value.null, none, none, none]) by decide +kernel) rfl rfl rfl ?_
  refine ax_same (sh' := MX 50 9) (by decide +kernel) ?_
  refine ax_aload_n (pc' := 112) dX11_init_111 rfl rfl ?_
  refine ax_newO (pc' := 115) dX11_init_112 no_X11_53 (by decide +kernel) (hz5 50 (by decide)) rfl rfl rfl rfl ?_
  refine ax_dup (pc' := 116) dX11_init_115 rfl rfl ?_
  refine ax_aload_n (pc' := 117) dX11_init_116 rfl rfl ?_
  refine ax_getR (pc' := 120) dX11_init_117 fl_X11_19 (show MX 50 9 0 = .inr (10, [some (.ref 1), some (.ref 3), some (.ref 14), some (.ref 25), some (.ref 29), some (.ref 33), some (.ref 35), some (.ref 37), some (.ref 42), some Value.null, some Value.null, some Value.null, some Value.null, some Value.null, none, none, none]) by decide +kernel) rfl rfl rfl ?_
  refine ax_aload_n (pc' := 121) dX11_init_120 rfl rfl ?_
  refine ax_getR (pc' := 124) dX11_init_121 fl_X11_29 (show MX 50 9 0 = .inr (10, [some (.ref 1), some (.ref 3), some (.ref 14), some (.ref 25), some (.ref 29), some (.ref 33), some (.ref 35), some (.ref 37), some (.ref 42), some Value.null, some Value.null, some Value.null, some Value.null, some Value.null, none, none, none]) by decide +kernel) rfl rfl rfl ?_
  refine ax_invI (a := 50) (As := [.ref 3, .ref 25]) (mc2 := 7) (ms2 := 100) (I2 := i_X5_init) rfl dX11_init_124 (ac_at 318 (by decide +kernel) (by decide +kernel)) (ix_X5 _ _) rfl rfl hE rfl rfl rfl (k_X5_50 _ (fun y y1 y2 => hz5 y (by omega)) (c_fill (by omega) (fun s6 f6 a6 => ?_)))
  have hz6 : ∀ y, (y ≠ 1 ∧ y ≠ 25 ∧ y ≠ 26 ∧ y ≠ 29 ∧ y ≠ 30 ∧ y ≠ 34 ∧ y ≠ 36 ∧ y ≠ 45 ∧ y ≠ 53) → s6 y = fun _ => 0 := fun y hy => by rw [f6 y (by omega)]; exact hz5 y (by omega)
  show ac_X g i_X11_init (d + 3) 68 13328 Q 57 2319 127 [some (.ref 0)] [.ref 50, .ref 0] (true, 58, MX 58 9, s6, τ)
  refine ax_putR (pc' := 130) dX11_init_127 fp_X11_62 rfl (fun _ => rfl) (fun _ => rfl) (show MX 58 9 0 = .inr (10, [some (.ref 1), some (.ref 3), some (.ref 14), some (.ref 25), some (.ref 29), some (.ref 33), some (.ref 35), some (.ref 37), some (.ref 42), some Value.null, some Value.null, some Value.null, some Value.null, some Value.null, none, none, none]) by decide +kernel) rfl rfl rfl ?_
  refine ax_same (sh' := MX 58 10) (by decide +kernel) ?_
  refine ax_aload_n (pc' := 131) dX11_init_130 rfl rfl ?_
  refine ax_newO (pc' := 134) dX11_init_131 no_X11_65 (by decide +kernel) (hz6 58 (by decide)) rfl rfl rfl rfl ?_
  refine ax_dup (pc' := 135) dX11_init_134 rfl rfl ?_
  refine ax_invIN (host := "FavourBeasts") (a := 58) (As := []) (mc2 := 3) (ms2 := 5564) (I2 := i_X6_init) rfl dX11_init_135 (List.mem_of_getElem? (i := 367) (by decide +kernel)) (ix_X6 _ _) rfl rfl hE rfl rfl rfl (k_X6_58 _ (fun y y1 y2 => hz6 y (by omega)) ?_)
  show ac_X g i_X11_init (d + 3) 68 13328 Q 61 7888 138 [some (.ref 0)] [.ref 58, .ref 0] (true, 62, MX 62 10, s6, τ)
  refine ax_putR (pc' := 141) dX11_init_138 fp_X11_68 rfl (fun _ => rfl) (fun _ => rfl) (show MX 62 10 0 = .inr (10, [some (.ref 1), some (.ref 3), some (.ref 14), some (.ref 25), some (.ref 29), some (.ref 33), some (.ref 35), some (.ref 37), some (.ref 42), some (.ref 50), some Value.null, some Value.null, some Value.null, some Value.null, none, none, none]) by decide +kernel) rfl rfl rfl ?_
  refine ax_same (sh' := MX 62 11) (by decide +kernel) ?_
  refine ax_aload_n (pc' := 142) dX11_init_141 rfl rfl ?_
  refine ax_newO (pc' := 145) dX11_init_142 no_X11_72 (by decide +kernel) (hz6 62 (by decide)) rfl rfl rfl rfl ?_
  refine ax_dup (pc' := 146) dX11_init_145 rfl rfl ?_
  refine ax_aload_n (pc' := 147) dX11_init_146 rfl rfl ?_
  refine ax_getR (pc' := 150) dX11_init_147 fl_X11_19 (show MX 62 11 0 = .inr (10, [some (.ref 1), some (.ref 3), some (.ref 14), some (.ref 25), some (.ref 29), some (.ref 33), some (.ref 35), some (.ref 37), some (.ref 42), some (.ref 50), some (.ref 58), some Value.null, some Value.null, some Value.null, none, none, none]) by decide +kernel) rfl rfl rfl ?_
  refine ax_aload_n (pc' := 151) dX11_init_150 rfl rfl ?_
  refine ax_getR (pc' := 154) dX11_init_151 fl_X11_58 (show MX 62 11 0 = .inr (10, [some (.ref 1), some (.ref 3), some (.ref 14), some (.ref 25), some (.ref 29), some (.ref 33), some (.ref 35), some (.ref 37), some (.ref 42), some (.ref 50), some (.ref 58), some Value.null, some Value.null, some Value.null, none, none, none]) by decide +kernel) rfl rfl rfl ?_
  refine ax_invI (a := 62) (As := [.ref 3, .ref 42]) (mc2 := 2) (ms2 := 4108) (I2 := i_X2_init) rfl dX11_init_154 (ac_at 391 (by decide +kernel) (by decide +kernel)) (ix_X2 _ _) rfl rfl hE rfl rfl rfl (k_X2_62 _ (fun y y1 y2 => hz6 y (by omega)) ?_)
  have hn2 : ∀ y, (y ≠ 1 ∧ y ≠ 25 ∧ y ≠ 26 ∧ y ≠ 29 ∧ y ≠ 30 ∧ y ≠ 34 ∧ y ≠ 36 ∧ y ≠ 45 ∧ y ≠ 53 ∧ y ≠ 62) → (ac_u s6 62 5 (-1)) y = fun _ => 0 := fun y hy => by rw [u_ne (by omega)]; exact hz6 y (by omega)
  show ac_X g i_X11_init (d + 3) 68 13328 Q 64 12002 157 [some (.ref 0)] [.ref 62, .ref 0] (true, 65, MX 65 11, (ac_u s6 62 5 (-1)), τ)
  refine ax_putR (pc' := 160) dX11_init_157 fp_X11_77 rfl (fun _ => rfl) (fun _ => rfl) (show MX 65 11 0 = .inr (10, [some (.ref 1), some (.ref 3), some (.ref 14), some (.ref 25), some (.ref 29), some (.ref 33), some (.ref 35), some (.ref 37), some (.ref 42), some (.ref 50), some (.ref 58), some Value.null, some Value.null, some Value.null, none, none, none]) by decide +kernel) rfl rfl rfl ?_
  refine ax_same (sh' := MX 65 12) (by decide +kernel) ?_
  refine ax_aload_n (pc' := 161) dX11_init_160 rfl rfl ?_
  refine ax_newO (pc' := 164) dX11_init_161 no_X11_81 (by decide +kernel) (hn2 65 (by decide)) rfl rfl rfl rfl ?_
  refine ax_dup (pc' := 165) dX11_init_164 rfl rfl ?_
  refine ax_aload_n (pc' := 166) dX11_init_165 rfl rfl ?_
  refine ax_getR (pc' := 169) dX11_init_166 fl_X11_58 (show MX 65 12 0 = .inr (10, [some (.ref 1), some (.ref 3), some (.ref 14), some (.ref 25), some (.ref 29), some (.ref 33), some (.ref 35), some (.ref 37), some (.ref 42), some (.ref 50), some (.ref 58), some (.ref 62), some Value.null, some Value.null, none, none, none]) by decide +kernel) rfl rfl rfl ?_
  refine ax_aload_n (pc' := 170) dX11_init_169 rfl rfl ?_
  refine ax_getR (pc' := 173) dX11_init_170 fl_X11_62 (show MX 65 12 0 = .inr (10, [some (.ref 1), some (.ref 3), some (.ref 14), some (.ref 25), some (.ref 29), some (.ref 33), some (.ref 35), some (.ref 37), some (.ref 42), some (.ref 50), some (.ref 58), some (.ref 62), some Value.null, some Value.null, none, none, none]) by decide +kernel) rfl rfl rfl ?_
  refine ax_aload_n (pc' := 174) dX11_init_173 rfl rfl ?_
  refine ax_getR (pc' := 177) dX11_init_174 fl_X11_39 (show MX 65 12 0 = .inr (10, [some (.ref 1), some (.ref 3), some (.ref 14), some (.ref 25), some (.ref 29), some (.ref 33), some (.ref 35), some (.ref 37), some (.ref 42), some (.ref 50), some (.ref 58), some (.ref 62), some Value.null, some Value.null, none, none, none]) by decide +kernel) rfl rfl rfl ?_
  refine ax_invI (a := 65) (As := [.ref 42, .ref 50, .ref 33]) (mc2 := 2) (ms2 := 1313) (I2 := i_X9_init) rfl dX11_init_177 (ac_at 418 (by decide +kernel) (by decide +kernel)) (ix_X9 _ _) rfl rfl hE rfl rfl rfl (k_X9_65 _ (fun y y1 y2 => hn2 y (by omega)) ?_)
  have hn3 : ∀ y, (y ≠ 1 ∧ y ≠ 25 ∧ y ≠ 26 ∧ y ≠ 29 ∧ y ≠ 30 ∧ y ≠ 34 ∧ y ≠ 36 ∧ y ≠ 45 ∧ y ≠ 53 ∧ y ≠ 62 ∧ y ≠ 65) → (ac_u (ac_u (ac_u (ac_u s6 62 5 (-1)) 65 6 (-1)) 65 7 (-1)) 65 8 (0)) y = fun _ => 0 := fun y hy => by rw [u_ne (by omega), u_ne (by omega), u_ne (by omega)]; exact hn2 y (by omega)
  show ac_X g i_X11_init (d + 3) 68 13328 Q 67 13324 180 [some (.ref 0)] [.ref 65, .ref 0] (true, 68, MX 68 12, (ac_u (ac_u (ac_u (ac_u s6 62 5 (-1)) 65 6 (-1)) 65 7 (-1)) 65 8 (0)), τ)
  refine ax_putR (pc' := 183) dX11_init_180 fp_X11_86 rfl (fun _ => rfl) (fun _ => rfl) (show MX 68 12 0 = .inr (10, [some (.ref 1), some (.ref 3), some (.ref 14), some (.ref 25), some (.ref 29), some (.ref 33), some (.ref 35), some (.ref 37), some (.ref 42), some (.ref 50), some (.ref 58), some (.ref 62), some Value.null, some Value.null, none, none, none]) by decide +kernel) rfl rfl rfl ?_
  refine ax_same (sh' := MX 68 13) (by decide +kernel) ?_
  refine ax_aload_n (pc' := 184) dX11_init_183 rfl rfl ?_
  refine ax_newO (pc' := 187) dX11_init_184 no_X11_90 (by decide +kernel) (hn3 68 (by decide)) rfl rfl rfl rfl ?_
  refine ax_dup (pc' := 188) dX11_init_187 rfl rfl ?_
  refine ax_aload_n (pc' := 189) dX11_init_188 rfl rfl ?_
  refine ax_getR (pc' := 192) dX11_init_189 fl_X11_19 (show MX 68 13 0 = .inr (10, [some (.ref 1), some (.ref 3), some (.ref 14), some (.ref 25), some (.ref 29), some (.ref 33), some (.ref 35), some (.ref 37), some (.ref 42), some (.ref 50), some (.ref 58), some (.ref 62), some (.ref 65), some Value.null, none, none, none]) by decide +kernel) rfl rfl rfl ?_
  refine ax_aload_n (pc' := 193) dX11_init_192 rfl rfl ?_
  refine ax_getR (pc' := 196) dX11_init_193 fl_X11_58 (show MX 68 13 0 = .inr (10, [some (.ref 1), some (.ref 3), some (.ref 14), some (.ref 25), some (.ref 29), some (.ref 33), some (.ref 35), some (.ref 37), some (.ref 42), some (.ref 50), some (.ref 58), some (.ref 62), some (.ref 65), some Value.null, none, none, none]) by decide +kernel) rfl rfl rfl ?_
  refine ax_aload_n (pc' := 197) dX11_init_196 rfl rfl ?_
  refine ax_getR (pc' := 200) dX11_init_197 fl_X11_62 (show MX 68 13 0 = .inr (10, [some (.ref 1), some (.ref 3), some (.ref 14), some (.ref 25), some (.ref 29), some (.ref 33), some (.ref 35), some (.ref 37), some (.ref 42), some (.ref 50), some (.ref 58), some (.ref 62), some (.ref 65), some Value.null, none, none, none]) by decide +kernel) rfl rfl rfl ?_
  refine ax_invI (a := 68) (As := [.ref 3, .ref 42, .ref 50]) (mc2 := 0) (ms2 := 0) (I2 := i_X1_init) rfl dX11_init_200 (ac_at 456 (by decide +kernel) (by decide +kernel)) (ix_X1 _ _) rfl rfl hE rfl rfl rfl (k_X1_68 _ (fun y y1 y2 => hn3 y (by omega)) ?_)
  show ac_X g i_X11_init (d + 3) 68 13328 Q 68 13328 203 [some (.ref 0)] [.ref 68, .ref 0] (true, 69, MX 69 13, (ac_u (ac_u (ac_u (ac_u s6 62 5 (-1)) 65 6 (-1)) 65 7 (-1)) 65 8 (0)), τ)
  refine ax_putR (pc' := 206) dX11_init_203 fp_X11_95 rfl (fun _ => rfl) (fun _ => rfl) (show MX 69 13 0 = .inr (10, [some (.ref 1), some (.ref 3), some (.ref 14), some (.ref 25), some (.ref 29), some (.ref 33), some (.ref 35), some (.ref 37), some (.ref 42), some (.ref 50), some (.ref 58), some (.ref 62), some (.ref 65), some Value.null, none, none, none]) by decide +kernel) rfl rfl rfl ?_
  refine ax_same (sh' := MX 69 14) (by decide +kernel) ?_
  refine ax_aload_n (pc' := 207) dX11_init_206 rfl rfl ?_
  refine ax_iconst (pc' := 208) (v := (0 : Int32)) dX11_init_207 (by decide) rfl ?_
  refine ax_put0 (pc' := 211) dX11_init_208 fp_X11_99 (show MX 69 14 0 = .inr (10, [some (.ref 1), some (.ref 3), some (.ref 14), some (.ref 25), some (.ref 29), some (.ref 33), some (.ref 35), some (.ref 37), some (.ref 42), some (.ref 50), some (.ref 58), some (.ref 62), some (.ref 65), some (.ref 68), none, none, none]) by decide +kernel) rfl rfl (hn3 0 (by decide)) rfl ?_
  refine ax_aload_n (pc' := 212) dX11_init_211 rfl rfl ?_
  refine ax_iconst (pc' := 213) (v := (0 : Int32)) dX11_init_212 (by decide) rfl ?_
  refine ax_put0 (pc' := 216) dX11_init_213 fp_X11_103 (show MX 69 14 0 = .inr (10, [some (.ref 1), some (.ref 3), some (.ref 14), some (.ref 25), some (.ref 29), some (.ref 33), some (.ref 35), some (.ref 37), some (.ref 42), some (.ref 50), some (.ref 58), some (.ref 62), some (.ref 65), some (.ref 68), none, none, none]) by decide +kernel) rfl rfl (hn3 0 (by decide)) rfl ?_
  refine ax_aload_n (pc' := 217) dX11_init_216 rfl rfl ?_
  refine ax_iconst (pc' := 218) (v := (0 : Int32)) dX11_init_217 (by decide) rfl ?_
  refine ax_put0 (pc' := 221) dX11_init_218 fp_X11_106 (show MX 69 14 0 = .inr (10, [some (.ref 1), some (.ref 3), some (.ref 14), some (.ref 25), some (.ref 29), some (.ref 33), some (.ref 35), some (.ref 37), some (.ref 42), some (.ref 50), some (.ref 58), some (.ref 62), some (.ref 65), some (.ref 68), none, none, none]) by decide +kernel) rfl rfl (hn3 0 (by decide)) rfl ?_
  refine ax_same (sh' := SH) (by decide +kernel) ?_
  refine ax_vret dX11_init_221 rfl rfl rfl (H _ ⟨fun y hy => hn3 y (by omega), ?_, ⟨?_, ?_, ?_, ?_, ?_⟩, fun j hj => ?_, fun j hj => ?_, ?_, ?_⟩)
  · rw [u_ne (by omega), u_ne (by omega), u_ne (by omega), u_ne (by omega), f6 25 (by omega), f5 25 (by omega), f4 25 (by omega), f3 25 (by omega), f2 25 (by omega) (by omega)]; exact a1
  · rw [u_ne (by omega), u_ne (by omega), u_ne (by omega), u_ne (by omega), f6 26 (by omega), f5 26 (by omega), f4 26 (by omega), f3 26 (by omega), f2 26 (by omega) (by omega)]; exact b1
  · rw [u_ne (by omega), u_ne (by omega), u_ne (by omega), u_ne (by omega), f6 26 (by omega), f5 26 (by omega), f4 26 (by omega), f3 26 (by omega), f2 26 (by omega) (by omega)]; exact c1
  · rw [u_ne (by omega), u_ne (by omega), u_ne (by omega), u_ne (by omega), f6 26 (by omega), f5 26 (by omega), f4 26 (by omega), f3 26 (by omega), f2 26 (by omega) (by omega)]; exact d1
  · rw [u_ne (by omega), u_ne (by omega), u_ne (by omega), u_ne (by omega), f6 26 (by omega), f5 26 (by omega), f4 26 (by omega), f3 26 (by omega), f2 26 (by omega) (by omega)]; exact e1
  · rw [u_ne (by omega), u_ne (by omega), u_ne (by omega), u_ne (by omega), f6 26 (by omega), f5 26 (by omega), f4 26 (by omega), f3 26 (by omega), f2 26 (by omega) (by omega)]; exact g1
  · rw [u_ne (by omega), u_ne (by omega), u_ne (by omega), u_ne (by omega), f6 34 (by omega), f5 34 (by omega), f4 34 (by omega)]; exact a3 j hj
  · rw [u_ne (by omega), u_ne (by omega), u_ne (by omega), u_ne (by omega), f6 45 (by omega)]; exact a5 j hj
  · rw [u_ne (by omega), u_ne (by omega), u_ne (by omega), u_ne (by omega), f6 1 (by omega), f5 1 (by omega), f4 1 (by omega), f3 1 (by omega), f2 1 (by omega) (by omega), f1 1 (by omega) (by omega), u_at (by decide), hz 1 rfl]
  · rw [u_ne (by omega), u_ne (by omega), u_ne (by omega), u_ne (by omega), f6 1 (by omega), f5 1 (by omega), f4 1 (by omega), f3 1 (by omega), f2 1 (by omega) (by omega), f1 1 (by omega) (by omega), u_eq]
