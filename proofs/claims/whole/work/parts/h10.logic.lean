/-! THE LOGIC: a program logic over the kit's rows in which a state is one row of int memory. A world is (exact size?, how many cells, their shapes, the ints, the longs); addresses are numbers from the law's first cell on; what was there before the law began has numbers from 1000000 on. -/
abbrev ac_S : Type := (Nat × Nat × Nat) ⊕ (Nat × List (Option Value))
abbrev ac_W : Type := Bool × Nat × (Nat → ac_S) × (Nat → Nat → Int32) × (Nat → Nat → Int64)
abbrev ac_G : Type := Launch × Nat × (Nat → Nat) × va_G × (Nat → ClassId) × Nat × (Nat → Int32)
abbrev ac_I : Type := MethodName × ByteArray × Nat × Option FieldType × List (Nat × Nat × Nat × Nat)
abbrev ac_O : Type := Option Value ⊕ String
def ac_r (g : ac_G) (a : Nat) : Nat := if a < 1000000 then g.2.1 + a else g.2.2.1 (a - 1000000)
def ac_v (g : ac_G) : Value → Value
  | .ref a => .ref (ac_r g a)
  | .int x => .int x
  | .long x => .long x
  | .float x => .float x
  | .double x => .double x
  | .null => .null
  | .retAddr x => .retAddr x
def ac_fs (g : ac_G) (f : Nat → Int32) : Nat → List (Option Value) → List Value
  | _, [] => []
  | k, none :: t => .int (f k) :: ac_fs g f (k + 1) t
  | k, some v :: t => ac_v g v :: ac_fs g f (k + 1) t
def ac_e (g : ac_G) (sh : ac_S) (f : Nat → Int32) (t : Nat → Int64) : va_E :=
  match sh with
  | .inl q => .inl (g.2.2.2.2.1 q.1, q.2.1, if q.1 ≤ 1 then .inl f else if q.1 = 2 then .inr (.inl t) else .inr (.inr (.inr (.inr fun j => if j < q.2.1 then some (ac_r g (q.2.2 + j)) else none))))
  | .inr q => .inr (q.1, ac_fs g f 0 q.2)
def ac_c (g : ac_G) (w : ac_W) (a : Nat) : Nat × va_E := (ac_r g a, ac_e g (w.2.2.1 a) (w.2.2.2.1 a) (w.2.2.2.2 a))
def ac_ws (g : ac_G) (w : ac_W) : va_W := (List.range w.2.1).map (ac_c g w)
def ac_R (g : ac_G) (w : ac_W) (H : Heap) : Prop := va_P g.2.2.2.1 vwCl (ac_ws g w) H ∧ w.2.1 ≤ 1000000 ∧ g.2.1 + w.2.1 ≤ H.size ∧ (w.1 = true → H.size = g.2.1 + w.2.1)
def ac_Z (g : ac_G) : Nat → Prop := fun q => g.2.1 ≤ q
def ac_ty (g : ac_G) : List (ClassId × FieldType) := [(g.2.2.2.2.1 0, .int), (g.2.2.2.2.1 1, .byte), (g.2.2.2.2.1 2, .long), (g.2.2.2.2.1 3, .array .int)]
/- the String constants: whose pool, the entry, the text, its bytes -/
/-- the law's own script, and the formatter that no call here uses -/
def ac_Y (g : ac_G) (U : State) (H : Heap) : Prop := (va_X (g.2.2.1 0) g.2.2.2.2.2.1 g.2.2.2.2.2.2 U H ∧ g.2.2.1 0 < g.2.1) ∧ (va_Z "jdk/internal/util/Preconditions" "SIOOBE_FORMATTER" "Ljava/util/function/BiFunction;" .null (ac_Z g) U H ∨ va_Z "jdk/internal/util/Preconditions" "SIOOBE_FORMATTER" "Ljava/util/function/BiFunction;" (.ref (g.2.2.1 50)) (ac_Z g) U H)
def ac_K (g : ac_G) (U : State) (H : Heap) : Prop := va_Z "java/lang/String" "COMPACT_STRINGS" "Z" (.int 1) (ac_Z g) U H ∧ ∀ (i : Nat) (q : String × Nat × String × List Int32), ac_str[i]? = some q → vk_R q.1 q.2.1 q.2.2.1 (g.2.2.1 (1 + i)) U ∧ va_O "java/lang/String" (g.2.2.1 (1 + i)) (ac_Z g) U H ∧ va_OF "java/lang/String" "coder" "B" (.int 0) (g.2.2.1 (1 + i)) (ac_Z g) U H ∧ va_OF "java/lang/String" "value" "[B" (.ref (g.2.2.1 (101 + i))) (g.2.2.1 (1 + i)) (ac_Z g) U H ∧ va_T .byte (g.2.2.1 (101 + i)) q.2.2.2.length (fun j => .int (q.2.2.2.getD j 0)) (ac_Z g) U H
/-- words of the tables that stay true by a way of their own: faces, nests; and that neither of the two exceptions is the other one -/
def ac_N (U : State) : Prop := (∀ w ∈ lw_tbl, w.onTables = true → w.keepsFace = true → va_Nw w U) ∧ (∀ (a : String) (i : Nat) (y : MethodName) (h : String), Cond.methodLinkNest a i y h ∈ lw_tbl → va_Nw (.methodLinkNest a i y h) U) ∧ va_Nc "java/util/NoSuchElementException" "java/lang/IllegalArgumentException" U ∧ va_Nc "java/lang/IllegalArgumentException" "java/util/NoSuchElementException" U ∧ va_AOA .int U
/-- what the start gives of the cells that were there before, and of the tables: the throwables' two statics, the String constants -/
def ac_A (g : ac_G) (U : State) (H : Heap) : Prop := va_K g.2.2.2.1 vwCl (ac_ty g) U ∧ vx_Zq Bundle.tN "UNASSIGNED_STACK" Bundle.steD (ac_Z g) U H ∧ vx_Zq Bundle.tN "SUPPRESSED_SENTINEL" Bundle.listD (ac_Z g) U H ∧ ac_N U ∧ (ac_Y g U H ∧ ac_K g U H)
def ac_code (I : ac_I) : Cond := match I.2.2.2.2 with
  | [] => .code I.1 I.2.1 I.2.2.1 I.2.2.2.1
  | h :: t => .codeWith I.1 I.2.1 I.2.2.1 I.2.2.2.1 (h :: t)
def ac_tb : List Cond := lw_tbl.filter goodWord
def ac_wd (I : ac_I) : List Cond := ac_code I :: ac_tb
def ac_rm (d mc ms : Nat) : Room := { frames := d + 12, cells := mc, slots := ms, locals := 64 * d + 256 }
def ac_P (g : ac_G) (As : List Value) (w : ac_W) : Array Value → State → Prop := fun v U => v = (As.map (ac_v g)).toArray ∧ ac_R g w U.heap ∧ ac_A g U U.heap
def ac_Q (g : ac_G) (Q : ac_O → ac_W → Prop) : Array Value → State → Outcome → State → Prop := fun _ st o t => (∃ (v : Option Value) (w : ac_W), o = .returned (v.map (ac_v g)) ∧ Q (.inl v) w ∧ ac_R g w t.heap) ∧ va_F (ac_Z g) st t
def ac_T (g : ac_G) (Q : ac_O → ac_W → Prop) : String → State → State → Prop := fun E st t => ∃ w : ac_W, Q (.inr E) w ∧ ac_R g w t.heap ∧ va_F (ac_Z g) st t
/-- a method's contract: from the world w, with these arguments, it ends as Q says -/
def ac_M (g : ac_G) (I : ac_I) (d mc ms : Nat) (As : List Value) (w : ac_W) (Q : ac_O → ac_W → Prop) : Prop := g.1.stackTraces = false → vx_Met g.1 I.1 (ac_wd I) (ac_rm d mc ms) (ac_P g As w) (ac_Q g Q) (ac_T g Q) mc ms (ac_Z g)
def ac_L (g : ac_G) (ls : Array Slot) (nL : Nat) (L : List (Option Value)) : Prop := ls.size = nL ∧ lv_wf ls ∧ ∀ (i : Nat) (v : Value), L[i]? = some (some v) → ls[i]? = some (.val (ac_v g v))
def ac_C (g : ac_G) (I : ac_I) (p : Program) (s : State) (m : MethodId) (args : Array Value) (meth : Method) (c : Code) : Prop :=
  p.tables.exec = Jvm.exec ∧ c.code = I.2.1 ∧ c.maxLocals = I.2.2.1 ∧ meth.sig.returnType = I.2.2.2.1 ∧ meth.locks = false ∧ s.vm.findClass I.1.cls = some m.cls ∧ (∀ w ∈ ac_wd I, w.before args s = true) ∧ c.exceptionTable.toList = tableOf I.2.2.2.2 ∧ meth.name = I.1.name ∧ ac_A g s s.heap ∧ g.2.1 ≤ s.heap.size ∧ g.1.stackTraces = false
/-- the method I stands at pc with the locals L, the stack S, the world w: it goes on to an end as Q says -/
def ac_X (g : ac_G) (I : ac_I) (d mc ms : Nat) (Q : ac_O → ac_W → Prop) (ce sl pc : Nat) (L : List (Option Value)) (S : List Value) (w : ac_W) : Prop :=
  ∀ (p : Program) (e : Env) (s : State) (m : MethodId) (args : Array Value) (below : List Frame) (meth : Method) (c : Code), ac_C g I p s m args meth c →
    ∀ (H : Heap) (locs : List Loc) (ls : Array Slot), ac_R g w H → va_S (ac_Z g) s.heap H locs → ac_L g ls I.2.2.1 L →
      W p g.1 e (ac_rm d mc ms) s m args below meth c H locs ce sl (vx_MQ below (ac_Q g Q) (ac_T g Q) args s mc ms (ac_Z g)) (F0 m pc ls (S.map (ac_v g)))
/-! plain facts -/
theorem ac_tb_in {w : Cond} (h : w ∈ lw_tbl) (hg : goodWord w = true) : w ∈ ac_tb := List.mem_filter.mpr ⟨h, hg⟩
theorem ac_at (i : Nat) {w : Cond} (h : lw_tbl[i]? = some w) (hg : goodWord w = true) : w ∈ ac_tb := ac_tb_in (List.mem_of_getElem? h) hg
theorem ac_ats (ws : List Cond) (ps : List Nat) (h : ps.map (fun i => lw_tbl[i]?) = ws.map some) (hg : ws.all goodWord = true) : ∀ w ∈ ws, w ∈ ac_tb := by
  intro w hw
  obtain ⟨k, hk⟩ := List.getElem?_of_mem hw
  have h1 : (ps.map (fun i => lw_tbl[i]?))[k]? = some (some w) := by rw [h, List.getElem?_map, hk]; rfl
  rw [List.getElem?_map] at h1
  cases hi : ps[k]? with
  | none => rw [hi] at h1; cases h1
  | some i => rw [hi] at h1; exact ac_at i (Option.some.inj h1) (List.all_eq_true.mp hg w hw)
theorem ac_good {w : Cond} (h : w ∈ ac_tb) : goodWord w = true := (List.mem_filter.mp h).2
theorem ac_ws_at {g : ac_G} {w : ac_W} {a : Nat} (h : a < w.2.1) : (ac_ws g w)[a]? = some (ac_c g w a) := by
  unfold ac_ws
  rw [List.getElem?_map, List.getElem?_range h]
  rfl
theorem ac_ws_len {g : ac_G} {w : ac_W} : (ac_ws g w).length = w.2.1 := by simp [ac_ws]
theorem ac_ws_some {g : ac_G} {w : ac_W} {k : Nat} {q : Nat × va_E} (h : (ac_ws g w)[k]? = some q) : k < w.2.1 ∧ q = ac_c g w k := by
  have hk : k < w.2.1 := by
    have := (List.getElem?_eq_some_iff.mp h).1
    rwa [ac_ws_len] at this
  rw [ac_ws_at hk] at h
  exact ⟨hk, (Option.some.inj h).symm⟩
theorem ac_r_lt {g : ac_G} {a : Nat} (h : a < 1000000) : ac_r g a = g.2.1 + a := if_pos h
theorem ac_D {g : ac_G} {w : ac_W} (h : w.2.1 ≤ 1000000) : va_D (ac_Z g) (ac_ws g w) := by
  refine ⟨fun i j p q hi hj e => ?_, fun k q hk => ?_⟩
  · obtain ⟨h1, rfl⟩ := ac_ws_some hi
    obtain ⟨h2, rfl⟩ := ac_ws_some hj
    have e' : ac_r g i = ac_r g j := e
    rw [ac_r_lt (by omega), ac_r_lt (by omega)] at e'
    omega
  · obtain ⟨h1, rfl⟩ := ac_ws_some hk
    show g.2.1 ≤ ac_r g k
    rw [ac_r_lt (by omega)]
    omega
/-- a cell written: the row of cells is that of another world -/
theorem ac_ws_set {g : ac_G} {w w' : ac_W} {a : Nat} {e : va_E} (h : a < w.2.1) (hn : w'.2.1 = w.2.1) (he : ac_c g w' a = (ac_r g a, e)) (ho : ∀ b, b < w.2.1 → b ≠ a → ac_c g w' b = ac_c g w b) : (ac_ws g w).set a (ac_r g a, e) = ac_ws g w' := by
  apply List.ext_getElem?
  intro k
  by_cases hk : k < w.2.1
  · rw [ac_ws_at (by rw [hn]; exact hk), List.getElem?_set]
    by_cases ha : a = k
    · subst ha
      rw [if_pos rfl, if_pos (by rw [ac_ws_len]; exact h), he]
    · rw [if_neg ha, ac_ws_at hk, ho k hk (fun z => ha z.symm)]
  · have h1 : (ac_ws g w')[k]? = none := by rw [List.getElem?_eq_none_iff, ac_ws_len]; omega
    have h2 : ((ac_ws g w).set a (ac_r g a, e))[k]? = none := by rw [List.getElem?_eq_none_iff, List.length_set, ac_ws_len]; omega
    rw [h1, h2]
theorem ac_v_cat (g : ac_G) (v : Value) : (ac_v g v).category = v.category := by cases v <;> rfl
theorem ac_sum (g : ac_G) (S : List Value) : ((S.map (ac_v g)).map fun v => v.category).sum = (S.map fun v => v.category).sum := by
  rw [List.map_map]
  congr 1
  apply List.map_congr_left
  intro v _
  exact ac_v_cat g v
theorem ac_over {u U : State} (hvm : u.vm.Alike U.vm) (h : va_AOA .int u) : va_AOA .int U := by
  have h1 : (Cond.arrayOver (.array .int)).before #[] (u.setVm U.vm) = true := (Cond.arrayOver_setVmC hvm (.array .int)).trans h
  exact h1
theorem ac_N.warm {s U : State} (hW : s.WarmedH U.vm) (h : ac_N s) : ac_N U := by
  obtain ⟨h1, h2, h3, h4, h5⟩ := h
  refine ⟨fun w hw ho hk => ?_, fun a i y b hw => va_Nw.warmM hW (h2 a i y b hw), va_Nc.moved hW.alike h3, va_Nc.moved hW.alike h4, ac_over hW.alike h5⟩
  have h9 : w.before #[] (s.setVm U.vm) = true := Cond.before_shiftedFace (State.Shifted.of_warmed hW) _ hk (h1 w hw ho hk)
  exact va_Nw.same (u := s.setVm U.vm) ho rfl h9
theorem ac_N.same {s U : State} (hv : U.vm = s.vm) (h : ac_N s) : ac_N U := by
  obtain ⟨h1, h2, h3, h4, h5⟩ := h
  have hvm : s.vm.Alike U.vm := by rw [hv]; exact Vm.Alike.refl _
  exact ⟨fun w hw ho hk => va_Nw.same ho hv.symm (h1 w hw ho hk), fun a i y b hw => va_Nw.same rfl hv.symm (h2 a i y b hw), va_Nc.moved hvm h3, va_Nc.moved hvm h4, ac_over hvm h5⟩
theorem ac_Y.kept {g : ac_G} {s U : State} {H : Heap} {H0 : Heap} (hvm : s.vm.Alike U.vm) (hb : g.2.1 ≤ H0.size) (hk : ∀ a : Nat, a < H0.size → ¬ ac_Z g a → H[a]? = H0[a]?) (h : ac_Y g s H0) : ac_Y g U H := by
  obtain ⟨⟨h1, h2⟩, h3⟩ := h
  refine ⟨⟨va_X.moved hvm (va_X.kept h1 (hk _ (by omega) (by unfold ac_Z; omega))), h2⟩, ?_⟩
  rcases h3 with h3 | h3
  · exact Or.inl (va_Z.moved hvm (va_Z.kept h3 hk))
  · exact Or.inr (va_Z.moved hvm (va_Z.kept h3 hk))
/-- the ambient facts hold at every later state of the same run -/
theorem ac_A.later {g : ac_G} {s U : State} {H : Heap} {locs : List Loc} (h : ac_A g s s.heap) (hb : g.2.1 ≤ s.heap.size) (hW : s.WarmedH U.vm) (hS : va_S (ac_Z g) s.heap H locs) : ac_A g U H := by
  obtain ⟨h1, h2, h3, h9, hy, h4, h5⟩ := h
  have hvm := hW.alike
  have hk : ∀ a : Nat, a < s.heap.size → ¬ ac_Z g a → H[a]? = s.heap[a]? := fun a ha hz => hS.2.1 a ha hz
  refine ⟨va_K.moved hvm h1, vx_Zq.moved hvm (vx_Zq.kept h2 hk), vx_Zq.moved hvm (vx_Zq.kept h3 hk), ac_N.warm hW h9, ac_Y.kept hvm hb hk hy, va_Z.moved hvm (va_Z.kept h4 hk), fun i q hq => ?_⟩
  obtain ⟨k1, k2, k3, k4, k5⟩ := h5 i q hq
  exact ⟨vk_R.warm hW k1, va_O.moved hvm (va_O.kept k2 hk), va_OF.moved hvm (va_OF.kept k3 hk), va_OF.moved hvm (va_OF.kept k4 hk), va_T.moved hvm (va_T.kept k5 hk)⟩
theorem ac_A.same {g : ac_G} {s U : State} {H : Heap} (h : ac_A g s H) (hb : g.2.1 ≤ H.size) (hv : U.vm = s.vm) : ac_A g U H := by
  obtain ⟨h1, h2, h3, h9, hy, h4, h5⟩ := h
  have hvm : s.vm.Alike U.vm := by rw [hv]; exact Vm.Alike.refl _
  refine ⟨va_K.moved hvm h1, vx_Zq.moved hvm h2, vx_Zq.moved hvm h3, ac_N.same hv h9, ac_Y.kept hvm hb (fun _ _ _ => rfl) hy, va_Z.moved hvm h4, fun i q hq => ?_⟩
  obtain ⟨k1, k2, k3, k4, k5⟩ := h5 i q hq
  exact ⟨vk_R.same hv k1, va_O.moved hvm k2, va_OF.moved hvm k3, va_OF.moved hvm k4, va_T.moved hvm k5⟩
theorem ac_P.blind (g : ac_G) (As : List Value) (w : ac_W) : FrameBlind (ac_P g As w) := by
  intro a U f mk ⟨h1, h2, h3⟩
  exact ⟨h1, h2, ac_A.same h3 (by have := h2.2.2.1; exact Nat.le_trans (Nat.le_add_right _ _) this) rfl⟩
/-! locals -/
def ac_lv (g : ac_G) (L : List (Option Value)) : List (Nat × Value) := (List.range L.length).filterMap fun i => match L[i]? with
  | some (some v) => some (i, ac_v g v)
  | _ => none
theorem ac_lv_mem {g : ac_G} {L : List (Option Value)} {q : Nat × Value} (h : q ∈ ac_lv g L) : ∃ v, L[q.1]? = some (some v) ∧ q.2 = ac_v g v := by
  obtain ⟨i, -, hi⟩ := List.mem_filterMap.mp h
  cases hL : L[i]? with
  | none => rw [hL] at hi; cases hi
  | some o =>
    cases o with
    | none => rw [hL] at hi; cases hi
    | some v => rw [hL] at hi; cases hi; exact ⟨v, hL, rfl⟩
theorem ac_mem_lv {g : ac_G} {L : List (Option Value)} {i : Nat} {v : Value} (h : L[i]? = some (some v)) : (i, ac_v g v) ∈ ac_lv g L := by
  refine List.mem_filterMap.mpr ⟨i, List.mem_range.mpr (List.getElem?_eq_some_iff.mp h).1, ?_⟩
  rw [h]
theorem ac_L.lv {g : ac_G} {ls : Array Slot} {nL : Nat} {L : List (Option Value)} (h : ac_L g ls nL L) : lv_has ls nL (ac_lv g L) := by
  refine ⟨h.1, h.2.1, fun q hq => ?_⟩
  obtain ⟨v, h1, h2⟩ := ac_lv_mem hq
  rw [h2]
  exact h.2.2 _ _ h1
theorem ac_L.place {g : ac_G} {ls : Array Slot} {nL : Nat} {L : List (Option Value)} {i : Nat} {v : Value} (_ : ac_L g ls nL L) (hl : L[i]? = some (some v)) : ∃ q : Nat, (ac_lv g L)[q]? = some (i, ac_v g v) := List.getElem?_of_mem (ac_mem_lv hl)
def ac_one (o : Option (Option Value)) : Bool := match o with
  | some (some (.long _)) => false
  | some (some (.double _)) => false
  | _ => true
def ac_st1 (L : List (Option Value)) (i : Nat) (v : Value) : Option (List (Option Value)) := match i with
  | 0 => some (L.set 0 (some v))
  | j + 1 => if ac_one L[j]? = true then some (L.set (j + 1) (some v)) else none
def ac_st2 (L : List (Option Value)) (i : Nat) (v : Value) : Option (List (Option Value)) := match i with
  | 0 => some ((L.set 0 (some v)).set 1 none)
  | j + 1 => if ac_one L[j]? = true then some ((L.set (j + 1) (some v)).set (j + 2) none) else none
theorem ac_one_cat {v : Value} (h : ac_one (some (some v)) = true) : v.category ≠ 2 := by
  cases v <;> first | (intro h2; cases h2; done) | (cases h; done) | simp_all [ac_one, Value.category]
theorem ac_st1_eq {L L' : List (Option Value)} {i : Nat} {v : Value} (h : ac_st1 L i v = some L') : L' = L.set i (some v) ∧ ∀ (j : Nat) (u : Value), j + 1 = i → L[j]? = some (some u) → u.category ≠ 2 := by
  cases i with
  | zero => exact ⟨(Option.some.inj h).symm, fun j u hj => by omega⟩
  | succ j =>
    unfold ac_st1 at h
    by_cases hc : ac_one L[j]? = true
    · simp only [hc, if_true] at h
      refine ⟨(Option.some.inj h).symm, fun k u hk hu => ?_⟩
      have : k = j := by omega
      subst this
      rw [hu] at hc
      exact ac_one_cat hc
    · simp only [hc] at h
      cases h
theorem ac_st2_eq {L L' : List (Option Value)} {i : Nat} {v : Value} (h : ac_st2 L i v = some L') : L' = (L.set i (some v)).set (i + 1) none ∧ ∀ (j : Nat) (u : Value), j + 1 = i → L[j]? = some (some u) → u.category ≠ 2 := by
  cases i with
  | zero => exact ⟨(Option.some.inj h).symm, fun j u hj => by omega⟩
  | succ j =>
    unfold ac_st2 at h
    by_cases hc : ac_one L[j]? = true
    · simp only [hc, if_true] at h
      refine ⟨(Option.some.inj h).symm, fun k u hk hu => ?_⟩
      have : k = j := by omega
      subst this
      rw [hu] at hc
      exact ac_one_cat hc
    · simp only [hc] at h
      cases h
theorem ac_set_some {L : List (Option Value)} {i k : Nat} {v u : Value} (h : (L.set i (some v))[k]? = some (some u)) : (k = i ∧ u = v) ∨ (k ≠ i ∧ L[k]? = some (some u)) := by
  rw [List.getElem?_set] at h
  by_cases hk : i = k
  · subst hk
    rw [if_pos rfl] at h
    by_cases hl : i < L.length
    · rw [if_pos hl] at h
      exact Or.inl ⟨rfl, (Option.some.inj (Option.some.inj h)).symm⟩
    · rw [if_neg hl] at h
      cases h
  · rw [if_neg hk] at h
    exact Or.inr ⟨fun z => hk z.symm, h⟩
theorem ac_L.st1 {g : ac_G} {ls ls' : Array Slot} {nL i : Nat} {L L' : List (Option Value)} {v : Value} (_ : ac_L g ls nL L) (hs : ac_st1 L i v = some L')
    (h' : lv_has ls' nL ((i, ac_v g v) :: (ac_lv g L).filter (fun q => !(q.1 == i) && !(q.1 + 1 == i && q.2.category == 2)))) : ac_L g ls' nL L' := by
  obtain ⟨rfl, hc⟩ := ac_st1_eq hs
  refine ⟨h'.1, h'.2.1, fun k u hk => ?_⟩
  rcases ac_set_some hk with ⟨rfl, rfl⟩ | ⟨h1, h2⟩
  · exact h'.2.2 _ List.mem_cons_self
  · refine h'.2.2 (k, ac_v g u) (List.mem_cons_of_mem _ (List.mem_filter.mpr ⟨ac_mem_lv h2, ?_⟩))
    have a1 : (k == i) = false := by simpa using h1
    have a2 : (k + 1 == i && (ac_v g u).category == 2) = false := by
      by_cases e : k + 1 = i
      · have := hc k u e h2
        rw [ac_v_cat]
        simp [this]
      · simp [e]
    simp only [a1, a2]
    rfl
theorem ac_L.st2 {g : ac_G} {ls ls' : Array Slot} {nL i : Nat} {L L' : List (Option Value)} {v : Value} (_ : ac_L g ls nL L) (hs : ac_st2 L i v = some L')
    (h' : lv_has ls' nL ((i, ac_v g v) :: (ac_lv g L).filter (fun q => !(q.1 == i) && (!(q.1 == i + 1) && !(q.1 + 1 == i && q.2.category == 2))))) : ac_L g ls' nL L' := by
  obtain ⟨rfl, hc⟩ := ac_st2_eq hs
  refine ⟨h'.1, h'.2.1, fun k u hk => ?_⟩
  rw [List.getElem?_set] at hk
  by_cases hk1 : i + 1 = k
  · rw [if_pos hk1] at hk
    by_cases hl : i + 1 < (L.set i (some v)).length
    · rw [if_pos hl] at hk; cases hk
    · rw [if_neg hl] at hk; cases hk
  · rw [if_neg hk1] at hk
    rcases ac_set_some hk with ⟨rfl, rfl⟩ | ⟨h1, h2⟩
    · exact h'.2.2 _ List.mem_cons_self
    · refine h'.2.2 (k, ac_v g u) (List.mem_cons_of_mem _ (List.mem_filter.mpr ⟨ac_mem_lv h2, ?_⟩))
      have a1 : (k == i) = false := by simpa using h1
      have a3 : (k == i + 1) = false := by simpa using fun z => hk1 z.symm
      have a2 : (k + 1 == i && (ac_v g u).category == 2) = false := by
        by_cases e : k + 1 = i
        · have := hc k u e h2
          rw [ac_v_cat]
          simp [this]
        · simp [e]
      simp only [a1, a2, a3]
      rfl
theorem ac_L.drop {g : ac_G} {ls : Array Slot} {nL i : Nat} {L : List (Option Value)} (h : ac_L g ls nL L) : ac_L g ls nL (L.set i none) := by
  refine ⟨h.1, h.2.1, fun k u hk => h.2.2 k u ?_⟩
  rw [List.getElem?_set] at hk
  by_cases hk1 : i = k
  · rw [if_pos hk1] at hk
    by_cases hl : i < L.length
    · rw [if_pos hl] at hk; cases hk
    · rw [if_neg hl] at hk; cases hk
  · rwa [if_neg hk1] at hk
def ac_en (nL : Nat) (As : List Value) : List (Option Value) := As.map some ++ List.replicate (nL - As.length) none
theorem ac_sl1 : ∀ (vs : List Value), (∀ v ∈ vs, v.category = 1) → (lg_sl vs).length = vs.length
  | [], _ => rfl
  | v :: t, h => by
    have h1 : v.category = 1 := h v List.mem_cons_self
    have ih := ac_sl1 t (fun u hu => h u (List.mem_cons_of_mem _ hu))
    unfold lg_sl at ih ⊢
    simp only [List.flatMap_cons, List.length_append, List.length_cons, h1]
    rw [ih]
    simp
    omega
theorem ac_args1 : ∀ (vs : List Value) (n : Nat), (∀ v ∈ vs, v.category = 1) → ∀ (k : Nat) (v : Value), vs[k]? = some v → (n + k, v) ∈ lv_args n vs
  | [], _, _, k, v, hk => by simp at hk
  | u :: t, n, h, 0, v, hk => by
    simp only [List.getElem?_cons_zero, Option.some.injEq] at hk
    subst hk
    exact List.mem_cons_self
  | u :: t, n, h, k + 1, v, hk => by
    have h1 : ¬ u.category = 2 := by rw [h u List.mem_cons_self]; decide
    have ih := ac_args1 t (n + 1) (fun x hx => h x (List.mem_cons_of_mem _ hx)) k v (by simpa using hk)
    unfold lv_args
    rw [if_neg h1]
    have e : n + (k + 1) = n + 1 + k := by omega
    rw [e]
    exact List.mem_cons_of_mem _ ih
theorem ac_L.entry (g : ac_G) {As : List Value} {nL : Nat} (hc : ∀ v ∈ As, v.category = 1) (hn : As.length ≤ nL) : ac_L g ((lg_sl (As.map (ac_v g)) ++ List.replicate (nL - (lg_sl (As.map (ac_v g))).length) Slot.unset).toArray) nL (ac_en nL As) := by
  have hc' : ∀ v ∈ As.map (ac_v g), v.category = 1 := fun v hv => by
    obtain ⟨u, hu, rfl⟩ := List.mem_map.mp hv
    rw [ac_v_cat]
    exact hc u hu
  have h := lv_entry (As.map (ac_v g)) (n := nL) (by rw [ac_sl1 _ hc', List.length_map]; exact hn)
  refine ⟨h.1, h.2.1, fun i v hi => ?_⟩
  have hi2 : As[i]? = some v := by
    unfold ac_en at hi
    by_cases hl : i < As.length
    · rw [List.getElem?_append_left (by simpa using hl), List.getElem?_map] at hi
      cases ha : As[i]? with
      | none => rw [ha] at hi; cases hi
      | some u => rw [ha] at hi; exact congrArg some (Option.some.inj (Option.some.inj hi))
    · rw [List.getElem?_append_right (by simpa using hl)] at hi
      rw [List.getElem?_replicate] at hi
      by_cases h9 : i - (As.map some).length < nL - As.length
      · rw [if_pos h9] at hi; cases hi
      · rw [if_neg h9] at hi; cases hi
  have h1 := ac_args1 (As.map (ac_v g)) 0 hc' i (ac_v g v) (by rw [List.getElem?_map, hi2]; rfl)
  rw [Nat.zero_add] at h1
  exact h.2.2 _ h1
/-! a method's body gives its contract -/
theorem ac_ofX {g : ac_G} {I : ac_I} {d mc ms : Nat} {Q : ac_O → ac_W → Prop} {As : List Value} {w : ac_W} {L0 : List (Option Value)} (hy : plainName I.1.cls = true) (hc : As.all (fun v => Nat.beq v.category 1) = true) (hn : Nat.ble As.length I.2.2.1 = true) (hL0 : ac_en I.2.2.1 As = L0) (k : ac_X g I d mc ms Q 0 0 0 L0 [] w) : ac_M g I d mc ms As w Q := by
  intro hst
  subst hL0
  have hc' : ∀ v ∈ As, v.category = 1 := fun v hv => Nat.eq_of_beq_eq_true (List.all_eq_true.mp hc v hv)
  have hn' : As.length ≤ I.2.2.1 := Nat.le_of_ble_eq_true hn
  have body : ∀ (p : Program) (e : Env) (s : State) (m : MethodId) (args : Array Value) (below : List Frame) (meth : Method) (c : Code) (s₁ : State), BodyLoose p g.1 I.1 (headSpec (ac_wd I) (ac_rm d mc ms)) I.2.1 I.2.2.1 I.2.2.2.1 e s m args below meth c s₁ → c.maxLocals = I.2.2.1 → c.exceptionTable.toList = tableOf I.2.2.2.2 → ac_P g As w args s →
      W p g.1 e (headSpec (ac_wd I) (ac_rm d mc ms)).room s m args below meth c s.heap [] 0 0 (vx_MQ below (ac_Q g Q) (ac_T g Q) args s mc ms (ac_Z g)) (entryFrame m args I.2.2.1) := by
    intro p e s m args below meth c s₁ B hml htab hv
    obtain ⟨rfl, hR, hA⟩ := hv
    have hC : ac_C g I p s m (As.map (ac_v g)).toArray meth c := ⟨B.exec, B.bytes, hml, B.returns, B.notSynchronized, findClass_of_methodNamed B.named, atoms_spec (ws := ac_wd I) B.pre, htab, (name_of_methodNamed B.named B.method).1, hA, by have := hR.2.2.1; omega, hst⟩
    rw [lg_entry_eq]
    exact k p e s m _ below meth c hC s.heap [] _ hR va_S.rf (ac_L.entry g hc' hn')
  obtain ⟨y, cc, nL, ret, hh⟩ := I
  cases hh with
  | nil =>
    exact vx_ofW (ws := ac_wd (y, cc, nL, ret, [])) (cc := cc) (maxL := nL) (ret := ret) hy rfl (fun p e s m args below meth c s₁ B hml ht hv => body p e s m args below meth c s₁ B hml (by
      have : c.exceptionTable.toList = [] := List.eq_nil_iff_forall_not_mem.mpr fun x hx => ht x hx
      rw [this]; rfl) hv)
  | cons h t =>
    exact vx_ofWH (ws := ac_wd (y, cc, nL, ret, h :: t)) (cc := cc) (maxL := nL) (ret := ret) hy rfl (fun p e s m args below meth c s₁ B hml hv => body p e s m args below meth c s₁ B hml (vx_table (x := y) B (atoms_spec (ws := ac_wd (y, cc, nL, ret, h :: t)) B.pre _ List.mem_cons_self)) hv)
/-- another end that follows -/
theorem ac_M.imp {g : ac_G} {I : ac_I} {d mc ms : Nat} {Q Q' : ac_O → ac_W → Prop} {As : List Value} {w : ac_W} (h : ac_M g I d mc ms As w Q) (hQ : ∀ o w, Q o w → Q' o w) : ac_M g I d mc ms As w Q' := by
  intro hst p e h1 h2 h3 s m args below h4 h5 h6 h7
  obtain ⟨n, o, a1, a2, a3, a4⟩ := h hst p e h1 h2 h3 s m args below h4 h5 h6 h7
  refine ⟨n, o, a1, a2, a3, ?_⟩
  rcases a4 with ⟨⟨⟨v, w', b1, b2, b3⟩, b4⟩, b5⟩ | ⟨q, b1, E, ce, L, ⟨w', c1, c2, c3⟩, b2⟩
  · exact Or.inl ⟨⟨⟨v, w', b1, hQ _ _ b2, b3⟩, b4⟩, b5⟩
  · exact Or.inr ⟨q, b1, E, ce, L, ⟨w', hQ _ _ c1, c2, c3⟩, b2⟩
/-- a method that never throws, as the kit's own contract -/
theorem ac_M.met {g : ac_G} {I : ac_I} {d mc ms : Nat} {Q : ac_O → ac_W → Prop} {As : List Value} {w : ac_W} (h : ac_M g I d mc ms As w Q) (hst : g.1.stackTraces = false) (hQ : ∀ E w, ¬ Q (.inr E) w) : Met g.1 I.1 (ac_wd I) (ac_rm d mc ms) (ac_P g As w) (ac_Q g Q) mc ms (ac_Z g) := by
  intro p e h1 h2 h3 s m args below h4 h5 h6 h7
  obtain ⟨n, o, a1, a2, a3, a4⟩ := h hst p e h1 h2 h3 s m args below h4 h5 h6 h7
  refine ⟨n, o, a1, a2, a3, ?_⟩
  rcases a4 with b | ⟨q, b1, E, ce, L, ⟨w', c1, c2, c3⟩, b2⟩
  · exact b
  · exact absurd c1 (hQ _ _)
