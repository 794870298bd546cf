/-! THE SHAPES of all cells: addresses in the order in which they are made -/
def SH (a : Nat) : ac_S := (if a < 55 then (if a < 27 then (if a < 13 then (if a < 6 then (if a < 3 then (if a < 1 then .inr (10, [some (.ref 1), some (.ref 3), some (.ref 14), some (.ref 25), some (.ref 29), some (.ref 33), some (.ref 35), some (.ref 37), some (.ref 42), some (.ref 50), some (.ref 58), some (.ref 62), some (.ref 65), some (.ref 68), none, none, none]) else (if a < 2 then .inr (9, [some (.ref 2), none, none, none, none, none, none]) else .inl (1, 600, 0))) else (if a < 4 then .inr (3, [some (.ref 4), some (.ref 5), some (.ref 6), some (.ref 7), some (.ref 8), some (.ref 9), some (.ref 10), some (.ref 11), some (.ref 12), some (.ref 13), none, none, none]) else (if a < 5 then .inl (0, 6, 0) else .inl (0, 6, 0)))) else (if a < 9 then (if a < 7 then .inl (0, 13, 0) else (if a < 8 then .inl (0, 13, 0) else .inl (0, 13, 0))) else (if a < 11 then (if a < 10 then .inl (0, 13, 0) else .inl (0, 10, 0)) else (if a < 12 then .inl (0, 10, 0) else .inl (0, 10, 0))))) else (if a < 20 then (if a < 16 then (if a < 14 then .inl (0, 6, 0) else (if a < 15 then .inr (3, [some (.ref 15), some (.ref 16), some (.ref 17), some (.ref 18), some (.ref 19), some (.ref 20), some (.ref 21), some (.ref 22), some (.ref 23), some (.ref 24), none, none, none]) else .inl (0, 6, 0))) else (if a < 18 then (if a < 17 then .inl (0, 6, 0) else .inl (0, 13, 0)) else (if a < 19 then .inl (0, 13, 0) else .inl (0, 13, 0)))) else (if a < 23 then (if a < 21 then .inl (0, 13, 0) else (if a < 22 then .inl (0, 10, 0) else .inl (0, 10, 0))) else (if a < 25 then (if a < 24 then .inl (0, 10, 0) else .inl (0, 6, 0)) else (if a < 26 then .inr (4, [some (.ref 26), some (.ref 27), some (.ref 28), none]) else .inl (0, 150, 0)))))) else (if a < 41 then (if a < 34 then (if a < 30 then (if a < 28 then .inl (0, 150, 0) else (if a < 29 then .inl (0, 8, 0) else .inr (4, [some (.ref 30), some (.ref 31), some (.ref 32), none]))) else (if a < 32 then (if a < 31 then .inl (0, 150, 0) else .inl (0, 150, 0)) else (if a < 33 then .inl (0, 8, 0) else .inr (0, [some (.ref 34), none])))) else (if a < 37 then (if a < 35 then .inl (0, 13, 0) else (if a < 36 then .inr (0, [some (.ref 36), none]) else .inl (0, 13, 0))) else (if a < 39 then (if a < 38 then .inr (7, [some (.ref 38), some (.ref 39), some (.ref 40), some (.ref 41), none, none, none, none]) else .inl (0, 150, 0)) else (if a < 40 then .inl (0, 150, 0) else .inl (0, 150, 0))))) else (if a < 48 then (if a < 44 then (if a < 42 then .inl (0, 150, 0) else (if a < 43 then .inr (5, [some (.ref 3), some (.ref 25), some (.ref 43), some (.ref 44), some (.ref 45), some (.ref 46), some (.ref 47), some (.ref 48), some (.ref 49), none, none, none]) else .inl (0, 6, 0))) else (if a < 46 then (if a < 45 then .inl (0, 13, 0) else .inl (0, 13, 0)) else (if a < 47 then .inl (0, 13, 0) else .inl (0, 36, 0)))) else (if a < 51 then (if a < 49 then .inl (0, 6, 0) else (if a < 50 then .inl (0, 13, 0) else .inr (5, [some (.ref 3), some (.ref 25), some (.ref 51), some (.ref 52), some (.ref 53), some (.ref 54), some (.ref 55), some (.ref 56), some (.ref 57), none, none, none]))) else (if a < 53 then (if a < 52 then .inl (0, 6, 0) else .inl (0, 13, 0)) else (if a < 54 then .inl (0, 13, 0) else .inl (0, 13, 0))))))) else (if a < 116 then (if a < 69 then (if a < 62 then (if a < 58 then (if a < 56 then .inl (0, 36, 0) else (if a < 57 then .inl (0, 6, 0) else .inl (0, 13, 0))) else (if a < 60 then (if a < 59 then .inr (6, [some (.ref 59), some (.ref 60), some (.ref 61), none, none]) else .inl (0, 1328, 0)) else (if a < 61 then .inl (0, 4233, 0) else .inl (0, 3, 0)))) else (if a < 65 then (if a < 63 then .inr (2, [some (.ref 3), some (.ref 42), some (.ref 63), some (.ref 64), none, none]) else (if a < 64 then .inl (0, 12, 0) else .inl (0, 4096, 0))) else (if a < 67 then (if a < 66 then .inr (8, [some (.ref 42), some (.ref 50), some (.ref 33), some (.ref 66), some (.ref 67), none, none, none, none]) else .inl (0, 13, 0)) else (if a < 68 then .inl (0, 1300, 0) else .inr (1, [some (.ref 3), some (.ref 42), some (.ref 50), none]))))) else (if a < 81 then (if a < 72 then (if a < 70 then .inr (11, [none, none, none, none, none, none, none, none, none, some (.ref 70), some (.ref 71), some (.ref 72), some (.ref 73), some (.ref 74), some (.ref 81), some (.ref 88), some (.ref 101), some (.ref 115), some (.ref 126), none, none, some (.ref 137), some (.ref 298), some (.ref 459), some (.ref 466), some (.ref 473), some (.ref 474), some (.ref 475), none, some (.ref 556), some (.ref 557), some (.ref 558), some (.ref 559), some (.ref 576), none, none, none, none, none, none, none, some (.ref 580), some (.ref 581), some (.ref 582), some (.ref 583), some (.ref 584), none]) else (if a < 71 then .inl (0, 600, 0) else .inl (0, 2, 0))) else (if a < 74 then (if a < 73 then .inl (0, 3, 0) else .inl (0, 3, 0)) else (if a < 75 then .inl (3, 6, 75) else .inl (0, 2, 0)))) else (if a < 89 then (if a < 82 then .inl (3, 6, 82) else (if a < 88 then .inl (0, 2, 0) else .inl (3, 12, 89))) else (if a < 102 then (if a < 101 then .inl (0, 4, 0) else .inl (3, 13, 102)) else (if a < 115 then .inl (0, 4, 0) else .inl (3, 10, 116)))))) else (if a < 476 then (if a < 459 then (if a < 137 then (if a < 126 then .inl (0, 3, 0) else (if a < 127 then .inl (3, 10, 127) else .inl (0, 3, 0))) else (if a < 298 then (if a < 138 then .inl (3, 160, 138) else .inl (0, 2, 0)) else (if a < 299 then .inl (3, 160, 299) else .inl (0, 2, 0)))) else (if a < 467 then (if a < 460 then .inl (3, 6, 460) else (if a < 466 then .inl (0, 2, 0) else .inl (3, 6, 467))) else (if a < 474 then (if a < 473 then .inl (0, 2, 0) else .inl (0, 160, 0)) else (if a < 475 then .inl (0, 8, 0) else .inl (3, 80, 476))))) else (if a < 577 then (if a < 558 then (if a < 556 then .inl (0, 4, 0) else (if a < 557 then .inl (0, 83, 0) else .inl (0, 83, 0))) else (if a < 560 then (if a < 559 then .inl (0, 13, 0) else .inl (3, 16, 560)) else (if a < 576 then .inl (0, 83, 0) else .inl (3, 3, 577)))) else (if a < 582 then (if a < 580 then .inl (0, 1412, 0) else (if a < 581 then .inl (0, 6, 0) else .inl (0, 13, 0))) else (if a < 584 then (if a < 583 then .inl (0, 100, 0) else .inl (0, 6, 0)) else (if a < 585 then .inl (2, 14, 0) else .inl (2, 1, 0))))))))
theorem sh_0 : SH 0 = .inr (10, [some (.ref 1), some (.ref 3), some (.ref 14), some (.ref 25), some (.ref 29), some (.ref 33), some (.ref 35), some (.ref 37), some (.ref 42), some (.ref 50), some (.ref 58), some (.ref 62), some (.ref 65), some (.ref 68), none, none, none]) := by decide +kernel
theorem sh_1 : SH 1 = .inr (9, [some (.ref 2), none, none, none, none, none, none]) := by decide +kernel
theorem sh_2 : SH 2 = .inl (1, 600, 0) := by decide +kernel
theorem sh_3 : SH 3 = .inr (3, [some (.ref 4), some (.ref 5), some (.ref 6), some (.ref 7), some (.ref 8), some (.ref 9), some (.ref 10), some (.ref 11), some (.ref 12), some (.ref 13), none, none, none]) := by decide +kernel
theorem sh_4 : SH 4 = .inl (0, 6, 0) := by decide +kernel
theorem sh_5 : SH 5 = .inl (0, 6, 0) := by decide +kernel
theorem sh_6 : SH 6 = .inl (0, 13, 0) := by decide +kernel
theorem sh_7 : SH 7 = .inl (0, 13, 0) := by decide +kernel
theorem sh_8 : SH 8 = .inl (0, 13, 0) := by decide +kernel
theorem sh_9 : SH 9 = .inl (0, 13, 0) := by decide +kernel
theorem sh_10 : SH 10 = .inl (0, 10, 0) := by decide +kernel
theorem sh_11 : SH 11 = .inl (0, 10, 0) := by decide +kernel
theorem sh_12 : SH 12 = .inl (0, 10, 0) := by decide +kernel
theorem sh_13 : SH 13 = .inl (0, 6, 0) := by decide +kernel
theorem sh_14 : SH 14 = .inr (3, [some (.ref 15), some (.ref 16), some (.ref 17), some (.ref 18), some (.ref 19), some (.ref 20), some (.ref 21), some (.ref 22), some (.ref 23), some (.ref 24), none, none, none]) := by decide +kernel
theorem sh_15 : SH 15 = .inl (0, 6, 0) := by decide +kernel
theorem sh_16 : SH 16 = .inl (0, 6, 0) := by decide +kernel
theorem sh_17 : SH 17 = .inl (0, 13, 0) := by decide +kernel
theorem sh_18 : SH 18 = .inl (0, 13, 0) := by decide +kernel
theorem sh_19 : SH 19 = .inl (0, 13, 0) := by decide +kernel
theorem sh_20 : SH 20 = .inl (0, 13, 0) := by decide +kernel
theorem sh_21 : SH 21 = .inl (0, 10, 0) := by decide +kernel
theorem sh_22 : SH 22 = .inl (0, 10, 0) := by decide +kernel
theorem sh_23 : SH 23 = .inl (0, 10, 0) := by decide +kernel
theorem sh_24 : SH 24 = .inl (0, 6, 0) := by decide +kernel
theorem sh_25 : SH 25 = .inr (4, [some (.ref 26), some (.ref 27), some (.ref 28), none]) := by decide +kernel
theorem sh_26 : SH 26 = .inl (0, 150, 0) := by decide +kernel
theorem sh_27 : SH 27 = .inl (0, 150, 0) := by decide +kernel
theorem sh_28 : SH 28 = .inl (0, 8, 0) := by decide +kernel
theorem sh_29 : SH 29 = .inr (4, [some (.ref 30), some (.ref 31), some (.ref 32), none]) := by decide +kernel
theorem sh_30 : SH 30 = .inl (0, 150, 0) := by decide +kernel
theorem sh_31 : SH 31 = .inl (0, 150, 0) := by decide +kernel
theorem sh_32 : SH 32 = .inl (0, 8, 0) := by decide +kernel
theorem sh_33 : SH 33 = .inr (0, [some (.ref 34), none]) := by decide +kernel
theorem sh_34 : SH 34 = .inl (0, 13, 0) := by decide +kernel
theorem sh_35 : SH 35 = .inr (0, [some (.ref 36), none]) := by decide +kernel
theorem sh_36 : SH 36 = .inl (0, 13, 0) := by decide +kernel
theorem sh_37 : SH 37 = .inr (7, [some (.ref 38), some (.ref 39), some (.ref 40), some (.ref 41), none, none, none, none]) := by decide +kernel
theorem sh_38 : SH 38 = .inl (0, 150, 0) := by decide +kernel
theorem sh_39 : SH 39 = .inl (0, 150, 0) := by decide +kernel
theorem sh_40 : SH 40 = .inl (0, 150, 0) := by decide +kernel
theorem sh_41 : SH 41 = .inl (0, 150, 0) := by decide +kernel
theorem sh_42 : SH 42 = .inr (5, [some (.ref 3), some (.ref 25), some (.ref 43), some (.ref 44), some (.ref 45), some (.ref 46), some (.ref 47), some (.ref 48), some (.ref 49), none, none, none]) := by decide +kernel
theorem sh_43 : SH 43 = .inl (0, 6, 0) := by decide +kernel
theorem sh_44 : SH 44 = .inl (0, 13, 0) := by decide +kernel
theorem sh_45 : SH 45 = .inl (0, 13, 0) := by decide +kernel
theorem sh_46 : SH 46 = .inl (0, 13, 0) := by decide +kernel
theorem sh_47 : SH 47 = .inl (0, 36, 0) := by decide +kernel
theorem sh_48 : SH 48 = .inl (0, 6, 0) := by decide +kernel
theorem sh_49 : SH 49 = .inl (0, 13, 0) := by decide +kernel
theorem sh_50 : SH 50 = .inr (5, [some (.ref 3), some (.ref 25), some (.ref 51), some (.ref 52), some (.ref 53), some (.ref 54), some (.ref 55), some (.ref 56), some (.ref 57), none, none, none]) := by decide +kernel
theorem sh_51 : SH 51 = .inl (0, 6, 0) := by decide +kernel
theorem sh_52 : SH 52 = .inl (0, 13, 0) := by decide +kernel
theorem sh_53 : SH 53 = .inl (0, 13, 0) := by decide +kernel
theorem sh_54 : SH 54 = .inl (0, 13, 0) := by decide +kernel
theorem sh_55 : SH 55 = .inl (0, 36, 0) := by decide +kernel
theorem sh_56 : SH 56 = .inl (0, 6, 0) := by decide +kernel
theorem sh_57 : SH 57 = .inl (0, 13, 0) := by decide +kernel
theorem sh_58 : SH 58 = .inr (6, [some (.ref 59), some (.ref 60), some (.ref 61), none, none]) := by decide +kernel
theorem sh_59 : SH 59 = .inl (0, 1328, 0) := by decide +kernel
theorem sh_60 : SH 60 = .inl (0, 4233, 0) := by decide +kernel
theorem sh_61 : SH 61 = .inl (0, 3, 0) := by decide +kernel
theorem sh_62 : SH 62 = .inr (2, [some (.ref 3), some (.ref 42), some (.ref 63), some (.ref 64), none, none]) := by decide +kernel
theorem sh_63 : SH 63 = .inl (0, 12, 0) := by decide +kernel
theorem sh_64 : SH 64 = .inl (0, 4096, 0) := by decide +kernel
theorem sh_65 : SH 65 = .inr (8, [some (.ref 42), some (.ref 50), some (.ref 33), some (.ref 66), some (.ref 67), none, none, none, none]) := by decide +kernel
theorem sh_66 : SH 66 = .inl (0, 13, 0) := by decide +kernel
theorem sh_67 : SH 67 = .inl (0, 1300, 0) := by decide +kernel
theorem sh_68 : SH 68 = .inr (1, [some (.ref 3), some (.ref 42), some (.ref 50), none]) := by decide +kernel
theorem sh_69 : SH 69 = .inr (11, [none, none, none, none, none, none, none, none, none, some (.ref 70), some (.ref 71), some (.ref 72), some (.ref 73), some (.ref 74), some (.ref 81), some (.ref 88), some (.ref 101), some (.ref 115), some (.ref 126), none, none, some (.ref 137), some (.ref 298), some (.ref 459), some (.ref 466), some (.ref 473), some (.ref 474), some (.ref 475), none, some (.ref 556), some (.ref 557), some (.ref 558), some (.ref 559), some (.ref 576), none, none, none, none, none, none, none, some (.ref 580), some (.ref 581), some (.ref 582), some (.ref 583), some (.ref 584), none]) := by decide +kernel
theorem sh_70 : SH 70 = .inl (0, 600, 0) := by decide +kernel
theorem sh_71 : SH 71 = .inl (0, 2, 0) := by decide +kernel
theorem sh_72 : SH 72 = .inl (0, 3, 0) := by decide +kernel
theorem sh_73 : SH 73 = .inl (0, 3, 0) := by decide +kernel
theorem sh_74 : SH 74 = .inl (3, 6, 75) := by decide +kernel
theorem sh_r_75 : ∀ j, j < 6 → SH (75 + j) = .inl (0, 2, 0) := by decide +kernel
theorem sh_n_75 : ∀ j, j < 6 → Nat.blt (75 + j) 586 = true := by decide +kernel
theorem sh_81 : SH 81 = .inl (3, 6, 82) := by decide +kernel
theorem sh_r_82 : ∀ j, j < 6 → SH (82 + j) = .inl (0, 2, 0) := by decide +kernel
theorem sh_n_82 : ∀ j, j < 6 → Nat.blt (82 + j) 586 = true := by decide +kernel
theorem sh_88 : SH 88 = .inl (3, 12, 89) := by decide +kernel
theorem sh_r_89 : ∀ j, j < 12 → SH (89 + j) = .inl (0, 4, 0) := by decide +kernel
theorem sh_n_89 : ∀ j, j < 12 → Nat.blt (89 + j) 586 = true := by decide +kernel
theorem sh_101 : SH 101 = .inl (3, 13, 102) := by decide +kernel
theorem sh_r_102 : ∀ j, j < 13 → SH (102 + j) = .inl (0, 4, 0) := by decide +kernel
theorem sh_n_102 : ∀ j, j < 13 → Nat.blt (102 + j) 586 = true := by decide +kernel
theorem sh_115 : SH 115 = .inl (3, 10, 116) := by decide +kernel
theorem sh_r_116 : ∀ j, j < 10 → SH (116 + j) = .inl (0, 3, 0) := by decide +kernel
theorem sh_n_116 : ∀ j, j < 10 → Nat.blt (116 + j) 586 = true := by decide +kernel
theorem sh_126 : SH 126 = .inl (3, 10, 127) := by decide +kernel
theorem sh_r_127 : ∀ j, j < 10 → SH (127 + j) = .inl (0, 3, 0) := by decide +kernel
theorem sh_n_127 : ∀ j, j < 10 → Nat.blt (127 + j) 586 = true := by decide +kernel
theorem sh_137 : SH 137 = .inl (3, 160, 138) := by decide +kernel
theorem sh_r_138 : ∀ j, j < 160 → SH (138 + j) = .inl (0, 2, 0) := by decide +kernel
theorem sh_n_138 : ∀ j, j < 160 → Nat.blt (138 + j) 586 = true := by decide +kernel
theorem sh_298 : SH 298 = .inl (3, 160, 299) := by decide +kernel
theorem sh_r_299 : ∀ j, j < 160 → SH (299 + j) = .inl (0, 2, 0) := by decide +kernel
theorem sh_n_299 : ∀ j, j < 160 → Nat.blt (299 + j) 586 = true := by decide +kernel
theorem sh_459 : SH 459 = .inl (3, 6, 460) := by decide +kernel
theorem sh_r_460 : ∀ j, j < 6 → SH (460 + j) = .inl (0, 2, 0) := by decide +kernel
theorem sh_n_460 : ∀ j, j < 6 → Nat.blt (460 + j) 586 = true := by decide +kernel
theorem sh_466 : SH 466 = .inl (3, 6, 467) := by decide +kernel
theorem sh_r_467 : ∀ j, j < 6 → SH (467 + j) = .inl (0, 2, 0) := by decide +kernel
theorem sh_n_467 : ∀ j, j < 6 → Nat.blt (467 + j) 586 = true := by decide +kernel
theorem sh_473 : SH 473 = .inl (0, 160, 0) := by decide +kernel
theorem sh_474 : SH 474 = .inl (0, 8, 0) := by decide +kernel
theorem sh_475 : SH 475 = .inl (3, 80, 476) := by decide +kernel
theorem sh_r_476 : ∀ j, j < 80 → SH (476 + j) = .inl (0, 4, 0) := by decide +kernel
theorem sh_n_476 : ∀ j, j < 80 → Nat.blt (476 + j) 586 = true := by decide +kernel
theorem sh_556 : SH 556 = .inl (0, 83, 0) := by decide +kernel
theorem sh_557 : SH 557 = .inl (0, 83, 0) := by decide +kernel
theorem sh_558 : SH 558 = .inl (0, 13, 0) := by decide +kernel
theorem sh_559 : SH 559 = .inl (3, 16, 560) := by decide +kernel
theorem sh_r_560 : ∀ j, j < 16 → SH (560 + j) = .inl (0, 83, 0) := by decide +kernel
theorem sh_n_560 : ∀ j, j < 16 → Nat.blt (560 + j) 586 = true := by decide +kernel
theorem sh_576 : SH 576 = .inl (3, 3, 577) := by decide +kernel
theorem sh_r_577 : ∀ j, j < 3 → SH (577 + j) = .inl (0, 1412, 0) := by decide +kernel
theorem sh_n_577 : ∀ j, j < 3 → Nat.blt (577 + j) 586 = true := by decide +kernel
theorem sh_580 : SH 580 = .inl (0, 6, 0) := by decide +kernel
theorem sh_581 : SH 581 = .inl (0, 13, 0) := by decide +kernel
theorem sh_582 : SH 582 = .inl (0, 100, 0) := by decide +kernel
theorem sh_583 : SH 583 = .inl (0, 6, 0) := by decide +kernel
theorem sh_584 : SH 584 = .inl (2, 14, 0) := by decide +kernel
theorem sh_585 : SH 585 = .inl (2, 1, 0) := by decide +kernel
/-- a is a Meadow -/
def is_Md (a : Nat) : Prop := SH a = .inr (5, [some (.ref 3), some (.ref 25), some (.ref (a + 1)), some (.ref (a + 2)), some (.ref (a + 3)), some (.ref (a + 4)), some (.ref (a + 5)), some (.ref (a + 6)), some (.ref (a + 7)), none, none, none]) ∧ SH (a + 1) = .inl (0, 6, 0) ∧ SH (a + 2) = .inl (0, 13, 0) ∧ SH (a + 3) = .inl (0, 13, 0) ∧ SH (a + 4) = .inl (0, 13, 0) ∧ SH (a + 5) = .inl (0, 36, 0) ∧ SH (a + 6) = .inl (0, 6, 0) ∧ SH (a + 7) = .inl (0, 13, 0) ∧ Nat.blt a 586 = true ∧ Nat.blt (a + 1) 586 = true ∧ Nat.blt (a + 2) 586 = true ∧ Nat.blt (a + 3) 586 = true ∧ Nat.blt (a + 4) 586 = true ∧ Nat.blt (a + 5) 586 = true ∧ Nat.blt (a + 6) 586 = true ∧ Nat.blt (a + 7) 586 = true
theorem md_0 {a : Nat} (h : is_Md a) : SH a = .inr (5, [some (.ref 3), some (.ref 25), some (.ref (a + 1)), some (.ref (a + 2)), some (.ref (a + 3)), some (.ref (a + 4)), some (.ref (a + 5)), some (.ref (a + 6)), some (.ref (a + 7)), none, none, none]) := h.1
theorem md_1 {a : Nat} (h : is_Md a) : SH (a + 1) = .inl (0, 6, 0) := h.2.1
theorem md_2 {a : Nat} (h : is_Md a) : SH (a + 2) = .inl (0, 13, 0) := h.2.2.1
theorem md_3 {a : Nat} (h : is_Md a) : SH (a + 3) = .inl (0, 13, 0) := h.2.2.2.1
theorem md_4 {a : Nat} (h : is_Md a) : SH (a + 4) = .inl (0, 13, 0) := h.2.2.2.2.1
theorem md_5 {a : Nat} (h : is_Md a) : SH (a + 5) = .inl (0, 36, 0) := h.2.2.2.2.2.1
theorem md_6 {a : Nat} (h : is_Md a) : SH (a + 6) = .inl (0, 6, 0) := h.2.2.2.2.2.2.1
theorem md_7 {a : Nat} (h : is_Md a) : SH (a + 7) = .inl (0, 13, 0) := h.2.2.2.2.2.2.2.1
theorem md_8 {a : Nat} (h : is_Md a) : Nat.blt a 586 = true := h.2.2.2.2.2.2.2.2.1
theorem md_9 {a : Nat} (h : is_Md a) : Nat.blt (a + 1) 586 = true := h.2.2.2.2.2.2.2.2.2.1
theorem md_10 {a : Nat} (h : is_Md a) : Nat.blt (a + 2) 586 = true := h.2.2.2.2.2.2.2.2.2.2.1
theorem md_11 {a : Nat} (h : is_Md a) : Nat.blt (a + 3) 586 = true := h.2.2.2.2.2.2.2.2.2.2.2.1
theorem md_12 {a : Nat} (h : is_Md a) : Nat.blt (a + 4) 586 = true := h.2.2.2.2.2.2.2.2.2.2.2.2.1
theorem md_13 {a : Nat} (h : is_Md a) : Nat.blt (a + 5) 586 = true := h.2.2.2.2.2.2.2.2.2.2.2.2.2.1
theorem md_14 {a : Nat} (h : is_Md a) : Nat.blt (a + 6) 586 = true := h.2.2.2.2.2.2.2.2.2.2.2.2.2.2.1
theorem md_15 {a : Nat} (h : is_Md a) : Nat.blt (a + 7) 586 = true := h.2.2.2.2.2.2.2.2.2.2.2.2.2.2.2
theorem is_now : is_Md 42 := ⟨by decide +kernel, by decide +kernel, by decide +kernel, by decide +kernel, by decide +kernel, by decide +kernel, by decide +kernel, by decide +kernel, by decide +kernel, by decide +kernel, by decide +kernel, by decide +kernel, by decide +kernel, by decide +kernel, by decide +kernel, by decide +kernel⟩
theorem is_trial : is_Md 50 := ⟨by decide +kernel, by decide +kernel, by decide +kernel, by decide +kernel, by decide +kernel, by decide +kernel, by decide +kernel, by decide +kernel, by decide +kernel, by decide +kernel, by decide +kernel, by decide +kernel, by decide +kernel, by decide +kernel, by decide +kernel, by decide +kernel⟩
def is_Lw (a : Nat) : Prop := SH a = .inr (4, [some (.ref (a + 1)), some (.ref (a + 2)), some (.ref (a + 3)), none]) ∧ SH (a + 1) = .inl (0, 150, 0) ∧ SH (a + 2) = .inl (0, 150, 0) ∧ SH (a + 3) = .inl (0, 8, 0) ∧ Nat.blt a 586 = true ∧ Nat.blt (a + 1) 586 = true ∧ Nat.blt (a + 2) 586 = true ∧ Nat.blt (a + 3) 586 = true
theorem lx_0 {a : Nat} (h : is_Lw a) : SH a = .inr (4, [some (.ref (a + 1)), some (.ref (a + 2)), some (.ref (a + 3)), none]) := h.1
theorem lx_1 {a : Nat} (h : is_Lw a) : SH (a + 1) = .inl (0, 150, 0) := h.2.1
theorem lx_2 {a : Nat} (h : is_Lw a) : SH (a + 2) = .inl (0, 150, 0) := h.2.2.1
theorem lx_3 {a : Nat} (h : is_Lw a) : SH (a + 3) = .inl (0, 8, 0) := h.2.2.2.1
theorem lx_4 {a : Nat} (h : is_Lw a) : Nat.blt a 586 = true := h.2.2.2.2.1
theorem lx_5 {a : Nat} (h : is_Lw a) : Nat.blt (a + 1) 586 = true := h.2.2.2.2.2.1
theorem lx_6 {a : Nat} (h : is_Lw a) : Nat.blt (a + 2) 586 = true := h.2.2.2.2.2.2.1
theorem lx_7 {a : Nat} (h : is_Lw a) : Nat.blt (a + 3) 586 = true := h.2.2.2.2.2.2.2
theorem is_Lw25 : is_Lw 25 := ⟨by decide +kernel, by decide +kernel, by decide +kernel, by decide +kernel, by decide +kernel, by decide +kernel, by decide +kernel, by decide +kernel⟩
theorem is_Lw29 : is_Lw 29 := ⟨by decide +kernel, by decide +kernel, by decide +kernel, by decide +kernel, by decide +kernel, by decide +kernel, by decide +kernel, by decide +kernel⟩
def is_Bk (a : Nat) : Prop := SH a = .inr (0, [some (.ref (a + 1)), none]) ∧ SH (a + 1) = .inl (0, 13, 0) ∧ Nat.blt a 586 = true ∧ Nat.blt (a + 1) 586 = true
theorem bk_0 {a : Nat} (h : is_Bk a) : SH a = .inr (0, [some (.ref (a + 1)), none]) := h.1
theorem bk_1 {a : Nat} (h : is_Bk a) : SH (a + 1) = .inl (0, 13, 0) := h.2.1
theorem bk_2 {a : Nat} (h : is_Bk a) : Nat.blt a 586 = true := h.2.2.1
theorem bk_3 {a : Nat} (h : is_Bk a) : Nat.blt (a + 1) 586 = true := h.2.2.2
theorem is_Bk33 : is_Bk 33 := ⟨by decide +kernel, by decide +kernel, by decide +kernel, by decide +kernel⟩
theorem is_Bk35 : is_Bk 35 := ⟨by decide +kernel, by decide +kernel, by decide +kernel, by decide +kernel⟩
/-! the ends of methods: an int, nothing, a long; and those that may throw -/
def liI (τ : Nat → Nat → Int64) (Q : Int32 → ac_m → Prop) : ac_O → ac_W → Prop := fun o w => ∃ (r : Int32) (s : ac_m), o = .inl (some (.int r)) ∧ w = (false, 586, SH, s, τ) ∧ Q r s
def liL (τ : Nat → Nat → Int64) (Q : Int64 → ac_m → Prop) : ac_O → ac_W → Prop := fun o w => ∃ (r : Int64) (s : ac_m), o = .inl (some (.long r)) ∧ w = (false, 586, SH, s, τ) ∧ Q r s
def liV (τ : Nat → Nat → Int64) (Q : ac_m → Prop) : ac_O → ac_W → Prop := fun o w => ∃ s : ac_m, o = .inl none ∧ w = (false, 586, SH, s, τ) ∧ Q s
def liIX (τ : Nat → Nat → Int64) (Q : Int32 → ac_m → Prop) (X : String → ac_m → Prop) : ac_O → ac_W → Prop := fun o w => (∃ (r : Int32) (s : ac_m), o = .inl (some (.int r)) ∧ w = (false, 586, SH, s, τ) ∧ Q r s) ∨ ∃ (E : String) (s : ac_m), o = .inr E ∧ w = (false, 586, SH, s, τ) ∧ X E s
def liLX (τ : Nat → Nat → Int64) (Q : Int64 → ac_m → Prop) (X : String → ac_m → Prop) : ac_O → ac_W → Prop := fun o w => (∃ (r : Int64) (s : ac_m), o = .inl (some (.long r)) ∧ w = (false, 586, SH, s, τ) ∧ Q r s) ∨ ∃ (E : String) (s : ac_m), o = .inr E ∧ w = (false, 586, SH, s, τ) ∧ X E s
def liVX (τ : Nat → Nat → Int64) (Q : ac_m → Prop) (X : String → ac_m → Prop) : ac_O → ac_W → Prop := fun o w => (∃ s : ac_m, o = .inl none ∧ w = (false, 586, SH, s, τ) ∧ Q s) ∨ ∃ (E : String) (s : ac_m), o = .inr E ∧ w = (false, 586, SH, s, τ) ∧ X E s
def liL2 (Q : Int64 → ac_m → (Nat → Nat → Int64) → Prop) : ac_O → ac_W → Prop := fun o w => ∃ (r : Int64) (s : ac_m) (t : Nat → Nat → Int64), o = .inl (some (.long r)) ∧ w = (false, 586, SH, s, t) ∧ Q r s t
theorem ac_lt {j : Int32} {n : Nat} (h : vp_in j n) : j.toNatClampNeg < n := Nat.not_le.mp fun q => h (Or.inr q)
theorem ac_ne {x k : Int32} (h : ¬ x = k) : x.toInt ≠ k.toInt := fun e => h (Int32.toInt_inj.mp e)
theorem ac_bo0 : ac_bo 0 := rfl
theorem ac_bo1 : ac_bo 1 := rfl
