/-! THE START OF THE LAW: what the premises give -/
def lw_nar : List Cond := Jvm.Free.XT.flat (Jvm.Cond.and given_1 narrow_1)
def st_at (q : String × Nat × String × List Int32) (b k : Nat) : Prop :=
  lw_nar[b]? = some (.exactly (.string q.1 q.2.1) "java/lang/String") ∧ lw_nar[b + 1]? = some (.eq (.field (.string q.1 q.2.1) "java/lang/String" "coder" "B") (.int 0)) ∧ lw_nar[b + 2]? = some (.arrayOf (.field (.string q.1 q.2.1) "java/lang/String" "value" "[B") .byte)
  ∧ lw_nar[b + 3]? = some (.eq (.length (.field (.string q.1 q.2.1) "java/lang/String" "value" "[B")) (.int (Int32.ofNat q.2.2.2.length))) ∧ (∀ j, j < q.2.2.2.length → lw_nar[b + 4 + j]? = some (.eq (.elem (.field (.string q.1 q.2.1) "java/lang/String" "value" "[B") (.int (Int32.ofNat j))) (.int (q.2.2.2.getD j 0)))) ∧ lw_tbl[k]? = some (.stringRef q.1 q.2.1 q.2.2.1) ∧ q.2.2.2.length < 100
theorem st_0 : st_at ("FavourBeasts", 406, "a number that is none such", [97, 32, 110, 117, 109, 98, 101, 114, 32, 116, 104, 97, 116, 32, 105, 115, 32, 110, 111, 110, 101, 32, 115, 117, 99, 104]) 37 723 := ⟨by decide +kernel, by decide +kernel, by decide +kernel, by decide +kernel, by decide +kernel, by decide +kernel, by decide +kernel⟩
theorem st_1 : st_at ("FavourBeasts$Hills", 80, "folk", [102, 111, 108, 107]) 67 774 := ⟨by decide +kernel, by decide +kernel, by decide +kernel, by decide +kernel, by decide +kernel, by decide +kernel, by decide +kernel⟩
theorem st_2 : st_at ("FavourBeasts$Hills", 89, "beast", [98, 101, 97, 115, 116]) 76 863 := ⟨by decide +kernel, by decide +kernel, by decide +kernel, by decide +kernel, by decide +kernel, by decide +kernel, by decide +kernel⟩
theorem st_3 : st_at ("FavourBeasts$Hills", 94, "fair", [102, 97, 105, 114]) 87 871 := ⟨by decide +kernel, by decide +kernel, by decide +kernel, by decide +kernel, by decide +kernel, by decide +kernel, by decide +kernel⟩
theorem st_4 : st_at ("FavourBeasts$Law", 74, "least", [108, 101, 97, 115, 116]) 98 943 := ⟨by decide +kernel, by decide +kernel, by decide +kernel, by decide +kernel, by decide +kernel, by decide +kernel, by decide +kernel⟩
theorem st_5 : st_at ("FavourBeasts$Law", 84, "most", [109, 111, 115, 116]) 111 949 := ⟨by decide +kernel, by decide +kernel, by decide +kernel, by decide +kernel, by decide +kernel, by decide +kernel, by decide +kernel⟩
theorem st_6 : st_at ("FavourBeasts$Law", 90, "weight", [119, 101, 105, 103, 104, 116]) 124 953 := ⟨by decide +kernel, by decide +kernel, by decide +kernel, by decide +kernel, by decide +kernel, by decide +kernel, by decide +kernel⟩
theorem st_7 : st_at ("FavourBeasts$Law", 92, "kind", [107, 105, 110, 100]) 140 954 := ⟨by decide +kernel, by decide +kernel, by decide +kernel, by decide +kernel, by decide +kernel, by decide +kernel, by decide +kernel⟩
theorem st_8 : st_at ("FavourBeasts$Law", 94, "age", [97, 103, 101]) 155 955 := ⟨by decide +kernel, by decide +kernel, by decide +kernel, by decide +kernel, by decide +kernel, by decide +kernel, by decide +kernel⟩
theorem st_9 : st_at ("FavourBeasts$Law", 96, "grass", [103, 114, 97, 115, 115]) 170 956 := ⟨by decide +kernel, by decide +kernel, by decide +kernel, by decide +kernel, by decide +kernel, by decide +kernel, by decide +kernel⟩
theorem st_10 : st_at ("FavourBeasts$Law", 98, "others", [111, 116, 104, 101, 114, 115]) 188 957 := ⟨by decide +kernel, by decide +kernel, by decide +kernel, by decide +kernel, by decide +kernel, by decide +kernel, by decide +kernel⟩
theorem st_11 : st_at ("FavourBeasts$Law", 100, "cool", [99, 111, 111, 108]) 208 958 := ⟨by decide +kernel, by decide +kernel, by decide +kernel, by decide +kernel, by decide +kernel, by decide +kernel, by decide +kernel⟩
theorem st_12 : st_at ("FavourBeasts$Law", 102, "day", [100, 97, 121]) 227 959 := ⟨by decide +kernel, by decide +kernel, by decide +kernel, by decide +kernel, by decide +kernel, by decide +kernel, by decide +kernel⟩
theorem st_13 : st_at ("FavourBeasts$Law", 104, "beast", [98, 101, 97, 115, 116]) 246 960 := ⟨by decide +kernel, by decide +kernel, by decide +kernel, by decide +kernel, by decide +kernel, by decide +kernel, by decide +kernel⟩
theorem st_14 : st_at ("FavourBeasts$Plan", 60, "ask", [97, 115, 107]) 268 988 := ⟨by decide +kernel, by decide +kernel, by decide +kernel, by decide +kernel, by decide +kernel, by decide +kernel, by decide +kernel⟩
theorem st_15 : st_at ("FavourBeasts$Plan", 69, "drive", [100, 114, 105, 118, 101]) 289 999 := ⟨by decide +kernel, by decide +kernel, by decide +kernel, by decide +kernel, by decide +kernel, by decide +kernel, by decide +kernel⟩
theorem st_16 : st_at ("FavourBeasts$Plan", 75, "kill", [107, 105, 108, 108]) 313 1004 := ⟨by decide +kernel, by decide +kernel, by decide +kernel, by decide +kernel, by decide +kernel, by decide +kernel, by decide +kernel⟩
theorem st_17 : st_at ("FavourBeasts$Plan", 77, "do", [100, 111]) 337 1005 := ⟨by decide +kernel, by decide +kernel, by decide +kernel, by decide +kernel, by decide +kernel, by decide +kernel, by decide +kernel⟩
theorem st_18 : st_at ("FavourBeasts$Plan", 79, "hay", [104, 97, 121]) 360 1006 := ⟨by decide +kernel, by decide +kernel, by decide +kernel, by decide +kernel, by decide +kernel, by decide +kernel, by decide +kernel⟩
theorem st_19 : st_at ("FavourBeasts$Plan", 84, "day", [100, 97, 121]) 385 1011 := ⟨by decide +kernel, by decide +kernel, by decide +kernel, by decide +kernel, by decide +kernel, by decide +kernel, by decide +kernel⟩
theorem st_20 : st_at ("FavourBeasts$Plan", 90, "again", [97, 103, 97, 105, 110]) 411 1012 := ⟨by decide +kernel, by decide +kernel, by decide +kernel, by decide +kernel, by decide +kernel, by decide +kernel, by decide +kernel⟩
theorem st_21 : st_at ("FavourBeasts", 399, "no such folk, beast or fair", [110, 111, 32, 115, 117, 99, 104, 32, 102, 111, 108, 107, 44, 32, 98, 101, 97, 115, 116, 32, 111, 114, 32, 102, 97, 105, 114]) 440 1152 := ⟨by decide +kernel, by decide +kernel, by decide +kernel, by decide +kernel, by decide +kernel, by decide +kernel, by decide +kernel⟩
theorem st_all : ∀ (i : Nat) (q : String × Nat × String × List Int32), ac_str[i]? = some q → ∃ b k, st_at q b k := by
  intro i q hq
  match i, hq with
  | 0, hq => cases hq; exact ⟨_, _, st_0⟩
  | 1, hq => cases hq; exact ⟨_, _, st_1⟩
  | 2, hq => cases hq; exact ⟨_, _, st_2⟩
  | 3, hq => cases hq; exact ⟨_, _, st_3⟩
  | 4, hq => cases hq; exact ⟨_, _, st_4⟩
  | 5, hq => cases hq; exact ⟨_, _, st_5⟩
  | 6, hq => cases hq; exact ⟨_, _, st_6⟩
  | 7, hq => cases hq; exact ⟨_, _, st_7⟩
  | 8, hq => cases hq; exact ⟨_, _, st_8⟩
  | 9, hq => cases hq; exact ⟨_, _, st_9⟩
  | 10, hq => cases hq; exact ⟨_, _, st_10⟩
  | 11, hq => cases hq; exact ⟨_, _, st_11⟩
  | 12, hq => cases hq; exact ⟨_, _, st_12⟩
  | 13, hq => cases hq; exact ⟨_, _, st_13⟩
  | 14, hq => cases hq; exact ⟨_, _, st_14⟩
  | 15, hq => cases hq; exact ⟨_, _, st_15⟩
  | 16, hq => cases hq; exact ⟨_, _, st_16⟩
  | 17, hq => cases hq; exact ⟨_, _, st_17⟩
  | 18, hq => cases hq; exact ⟨_, _, st_18⟩
  | 19, hq => cases hq; exact ⟨_, _, st_19⟩
  | 20, hq => cases hq; exact ⟨_, _, st_20⟩
  | 21, hq => cases hq; exact ⟨_, _, st_21⟩
  | n + 22, hq => cases hq
theorem st_one {args : Array Value} {s : State} {A : Nat → Prop} (hs : ∀ w ∈ lw_nar, w.before args s = true) (ht : ∀ w ∈ lw_tbl, w.before args s = true) (hA : ∀ a : Nat, a < s.heap.size → ¬ A a) {q : String × Nat × String × List Int32} {b k : Nat} (h : st_at q b k) :
    ∃ a : Nat × Nat, vk_R q.1 q.2.1 q.2.2.1 a.1 s ∧ va_O "java/lang/String" a.1 A s s.heap ∧ va_OF "java/lang/String" "coder" "B" (.int 0) a.1 A s s.heap ∧ va_OF "java/lang/String" "value" "[B" (.ref a.2) a.1 A s s.heap ∧ va_T .byte a.2 q.2.2.2.length (fun j => .int (q.2.2.2.getD j 0)) A s s.heap := by
  obtain ⟨h1, h2, h3, h4, h5, h6, h7⟩ := h
  have hex := hs _ (List.mem_of_getElem? h1)
  have hco := hs _ (List.mem_of_getElem? h2)
  have har := hs _ (List.mem_of_getElem? h3)
  have hle := hs _ (List.mem_of_getElem? h4)
  obtain ⟨a, c, cA, kA, q1, q2, q3, q4, q5, q6, -⟩ := Cond.exactly_spec (args := args) (first := s) (o := none) (s := s) (idx := []) (t := .string q.1 q.2.1) (cls := "java/lang/String") hex
  obtain ⟨t, ht', hT⟩ := va_Tof (f := fun j => .int (q.2.2.2.getD j 0)) (A := A) (by omega) har (va_eqt hle) (fun j hj => va_eqt (hs _ (List.mem_of_getElem? (h5 j hj)))) hA
  exact ⟨(a, t), vk_R.of (A := args) (ht _ (List.mem_of_getElem? h6)) q1, ⟨cA, q3, q5, by rw [q6]; exact q2, hA a (Array.getElem?_eq_some_iff.mp q3).1⟩, vk_OFof q1 (va_eqt hco) hA, vk_OFof q1 ht' hA, hT⟩
theorem lw_arr {args : Array Value} {s : State} {ty : FieldType} (h : (Cond.arrayClass ty).before args s = true) : ∃ c : ClassId, ArrOfT s c ty ∧ s.vm.findClass ("[" ++ ty.toString) = some c := by
  obtain ⟨c, k, comp, h1, h2, h3⟩ := Cond.arrayClass_spec h
  exact ⟨c, fun n z => ⟨fun k h => (by cases h), k, h2, comp, h3⟩, h1⟩
theorem lw_arr2 {args : Array Value} {s : State} {t : FieldType} (h : (Cond.arrayOver (.array t)).before args s = true) : ∃ c : ClassId, ArrOfT s c (.array t) ∧ s.vm.findClass ("[" ++ (FieldType.array t).toString) = some c := by
  obtain ⟨comp, c, k, h0, h2, h3, h1⟩ := Cond.arrayOver_specA h
  exact ⟨c, fun n z => ⟨fun k h => (by cases h), k, h2, comp, h3⟩, h1⟩
theorem lw_A {l : Launch} {s : State} {b L : Nat} {xs : Nat → Int32} (hs : ∀ w ∈ lw_nar, w.before #[Value.ref b] s = true) (hts : ∀ w ∈ lw_tbl, w.before #[Value.ref b] s = true) (hX : va_X b L xs s s.heap) (hbl : b < s.heap.size) :
    ∃ g : ac_G, g.1 = l ∧ g.2.1 = s.heap.size ∧ g.2.2.1 0 = b ∧ g.2.2.2.2.2.1 = L ∧ ac_A g s s.heap := by
  have htb : ∀ w ∈ ac_tb, w.before #[Value.ref b] s = true := fun w hw => hts w (List.mem_filter.mp hw).1
  have hA : ∀ a : Nat, a < s.heap.size → ¬ (fun q : Nat => s.heap.size ≤ q) a := fun a ha => Nat.not_le.mpr ha
  have w : ∀ (i : Nat) {c : Cond}, lw_tbl[i]? = some c → c.before #[Value.ref b] s = true := fun i c h => hts c (List.mem_of_getElem? h)
  have v : ∀ (i : Nat) {c : Cond}, lw_nar[i]? = some c → c.before #[Value.ref b] s = true := fun i c h => hs c (List.mem_of_getElem? h)
  obtain ⟨c0, i0, k0⟩ := u_known (C := RX0) (T := TX0) (N := 2) (n := 2) htb in_X0 (w 262 (c := .instantiable RX0 2) (by decide +kernel))
  obtain ⟨c1, i1, k1⟩ := u_known (C := RX1) (T := TX1) (N := 4) (n := 4) htb in_X1 (w 455 (c := .instantiable RX1 4) (by decide +kernel))
  obtain ⟨c2, i2, k2⟩ := u_known (C := RX2) (T := TX2) (N := 6) (n := 6) htb in_X2 (w 390 (c := .instantiable RX2 6) (by decide +kernel))
  obtain ⟨c3, i3, k3⟩ := u_known (C := RX3) (T := TX3) (N := 13) (n := 13) htb in_X3 (w 173 (c := .instantiable RX3 13) (by decide +kernel))
  obtain ⟨c4, i4, k4⟩ := u_known (C := RX4) (T := TX4) (N := 4) (n := 4) htb in_X4 (w 235 (c := .instantiable RX4 4) (by decide +kernel))
  obtain ⟨c5, i5, k5⟩ := u_known (C := RX5) (T := TX5) (N := 12) (n := 12) htb in_X5 (w 317 (c := .instantiable RX5 12) (by decide +kernel))
  obtain ⟨c6, i6, k6⟩ := u_known (C := RX6) (T := TX6) (N := 5) (n := 5) htb in_X6 (w 366 (c := .instantiable RX6 5) (by decide +kernel))
  obtain ⟨c7, i7, k7⟩ := u_known (C := RX7) (T := TX7) (N := 8) (n := 8) htb in_X7 (w 283 (c := .instantiable RX7 8) (by decide +kernel))
  obtain ⟨c8, i8, k8⟩ := u_known (C := RX9) (T := TX9) (N := 9) (n := 9) htb in_X9 (w 417 (c := .instantiable RX9 9) (by decide +kernel))
  obtain ⟨c9, i9, k9⟩ := u_known (C := RX10) (T := TX10) (N := 7) (n := 7) htb in_X10 (w 138 (c := .instantiable RX10 7) (by decide +kernel))
  obtain ⟨c10, i10, k10⟩ := u_known (C := RX11) (T := TX11) (N := 17) (n := 17) htb in_X11 (w 130 (c := .instantiable RX11 17) (by decide +kernel))
  obtain ⟨c11, i11, k11⟩ := u_known (C := RX12) (T := TX12) (N := 47) (n := 47) htb in_X12 (w 1536 (c := .instantiable RX12 47) (by decide +kernel))
  obtain ⟨dC, dI, hKc⟩ : ∃ (dC : Nat → ClassId) (dI : Nat → Nat → Nat), ∀ (k : Nat) (q : vw_C), vwCl[k]? = some q → u_Kn s q.1 q.2.1 q.2.2 (dC k) (dI k) := by
    refine ⟨fun k => [c0, c1, c2, c3, c4, c5, c6, c7, c8, c9, c10, c11].getD k c0, fun k => [i0, i1, i2, i3, i4, i5, i6, i7, i8, i9, i10, i11].getD k i0, ?_⟩
    intro k q hq
    match k, hq with
    | 0, hq => cases hq; exact k0
    | 1, hq => cases hq; exact k1
    | 2, hq => cases hq; exact k2
    | 3, hq => cases hq; exact k3
    | 4, hq => cases hq; exact k4
    | 5, hq => cases hq; exact k5
    | 6, hq => cases hq; exact k6
    | 7, hq => cases hq; exact k7
    | 8, hq => cases hq; exact k8
    | 9, hq => cases hq; exact k9
    | 10, hq => cases hq; exact k10
    | 11, hq => cases hq; exact k11
    | k + 12, hq => cases hq
  obtain ⟨y0, a0, b0⟩ := lw_arr (w 233 (c := .arrayClass .int) (by decide +kernel))
  obtain ⟨y1, a1, b1⟩ := lw_arr (w 171 (c := .arrayClass .byte) (by decide +kernel))
  obtain ⟨y2, a2, b2⟩ := lw_arr (w 1700 (c := .arrayClass .long) (by decide +kernel))
  have hov := w 1542 (c := .arrayOver (.array .int)) (by decide +kernel)
  obtain ⟨y3, a3, b3⟩ := lw_arr2 hov
  have z1 := vx_Zqof (w 710 (c := .laysStatic "java/lang/Throwable" "UNASSIGNED_STACK" "[Ljava/lang/StackTraceElement;") (by decide +kernel)) (w 116 (c := .initialized "java/lang/Throwable") (by decide +kernel)) (v 4 (c := .isRef (.static "java/lang/Throwable" "UNASSIGNED_STACK" "[Ljava/lang/StackTraceElement;")) (by decide +kernel)) hA
  have z2 := vx_Zqof (w 712 (c := .laysStatic "java/lang/Throwable" "SUPPRESSED_SENTINEL" "Ljava/util/List;") (by decide +kernel)) (w 116 (c := .initialized "java/lang/Throwable") (by decide +kernel)) (v 5 (c := .isRef (.static "java/lang/Throwable" "SUPPRESSED_SENTINEL" "Ljava/util/List;")) (by decide +kernel)) hA
  have z3 := va_Zof (w 788 (c := .laysStatic "java/lang/String" "COMPACT_STRINGS" "Z") (by decide +kernel)) (w 120 (c := .initialized "java/lang/String") (by decide +kernel)) (va_eqt (v 6 (c := .eq (.static "java/lang/String" "COMPACT_STRINGS" "Z") (.int 1)) (by decide +kernel))) hA
  have z4 := va_Zqof (w 808 (c := .laysStatic "jdk/internal/util/Preconditions" "SIOOBE_FORMATTER" "Ljava/util/function/BiFunction;") (by decide +kernel)) (w 122 (c := .initialized "jdk/internal/util/Preconditions") (by decide +kernel)) (v 7 (c := .isRef (.static "jdk/internal/util/Preconditions" "SIOOBE_FORMATTER" "Ljava/util/function/BiFunction;")) (by decide +kernel)) hA
  obtain ⟨t0, z4⟩ : ∃ t0 : Nat, va_Z "jdk/internal/util/Preconditions" "SIOOBE_FORMATTER" "Ljava/util/function/BiFunction;" .null (fun q : Nat => s.heap.size ≤ q) s s.heap ∨ va_Z "jdk/internal/util/Preconditions" "SIOOBE_FORMATTER" "Ljava/util/function/BiFunction;" (.ref t0) (fun q : Nat => s.heap.size ≤ q) s s.heap := by
    rcases z4 with h | ⟨t, h⟩
    · exact ⟨0, Or.inl h⟩
    · exact ⟨t, Or.inr h⟩
  have n1 := va_Nc.of (v 23 (c := .not (.castable "java/util/NoSuchElementException" "java/lang/IllegalArgumentException")) (by decide +kernel))
  have n2 := va_Nc.of (v 36 (c := .not (.castable "java/lang/IllegalArgumentException" "java/util/NoSuchElementException")) (by decide +kernel))
  have h0 : ∀ i : Nat, ∃ a : Nat × Nat, ∀ q, ac_str[i]? = some q → vk_R q.1 q.2.1 q.2.2.1 a.1 s ∧ va_O "java/lang/String" a.1 (fun q : Nat => s.heap.size ≤ q) s s.heap ∧ va_OF "java/lang/String" "coder" "B" (.int 0) a.1 (fun q : Nat => s.heap.size ≤ q) s s.heap ∧ va_OF "java/lang/String" "value" "[B" (.ref a.2) a.1 (fun q : Nat => s.heap.size ≤ q) s s.heap ∧ va_T .byte a.2 q.2.2.2.length (fun j => .int (q.2.2.2.getD j 0)) (fun q : Nat => s.heap.size ≤ q) s s.heap := by
    intro i
    cases hq : ac_str[i]? with
    | none => exact ⟨(0, 0), fun q h => nomatch h⟩
    | some q =>
      obtain ⟨b', k', h⟩ := st_all i q hq
      obtain ⟨a, ha⟩ := st_one hs hts hA h
      exact ⟨a, fun q' h' => by cases h'; exact ha⟩
  obtain ⟨ad, had⟩ := Classical.axiomOfChoice h0
  have hlen : ∀ (i : Nat) (q : String × Nat × String × List Int32), ac_str[i]? = some q → i < 22 := fun i q h => (List.getElem?_eq_some_iff.mp h).1
  let f : Nat → Nat := fun n => if n = 0 then b else if n = 50 then t0 else if n < 50 then (ad (n - 1)).1 else (ad (n - 101)).2
  have f1 : ∀ i, i < 22 → f (1 + i) = (ad i).1 := fun i hi => by
    show (if 1 + i = 0 then b else if 1 + i = 50 then t0 else if 1 + i < 50 then (ad (1 + i - 1)).1 else (ad (1 + i - 101)).2) = _
    rw [if_neg (by omega), if_neg (by omega), if_pos (by omega), show 1 + i - 1 = i by omega]
  have f2 : ∀ i, i < 22 → f (101 + i) = (ad i).2 := fun i hi => by
    show (if 101 + i = 0 then b else if 101 + i = 50 then t0 else if 101 + i < 50 then (ad (101 + i - 1)).1 else (ad (101 + i - 101)).2) = _
    rw [if_neg (by omega), if_neg (by omega), if_neg (by omega), show 101 + i - 101 = i by omega]
  refine ⟨(l, s.heap.size, f, (dC, dI), (fun k => [y0, y1, y2, y3].getD k y0), L, xs), rfl, rfl, rfl, rfl, ⟨hKc, ?_⟩, z1, z2, ⟨fun c hc ho _ => va_Nw.of ho (hts c hc), fun a i y h hc => va_Nw.of rfl (hts _ hc), n1, n2, va_AOA.of hov⟩, ⟨⟨hX, hbl⟩, z4⟩, z3, fun i q hq => ?_⟩
  · intro k q hq
    match k, hq with
    | 0, hq => cases hq; exact ⟨a0, b0⟩
    | 1, hq => cases hq; exact ⟨a1, b1⟩
    | 2, hq => cases hq; exact ⟨a2, b2⟩
    | 3, hq => cases hq; exact ⟨a3, b3⟩
    | k + 4, hq => cases hq
  · have h := had i q hq
    have hi := hlen i q hq
    dsimp only
    rw [f1 i hi, f2 i hi]
    exact h
