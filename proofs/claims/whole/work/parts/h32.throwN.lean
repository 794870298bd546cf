/-! THE THROW OF AN EXCEPTION WHOSE OWN CONSTRUCTOR HANDS ON BY ANOTHER POOL ENTRY THAN THE LIBRARY'S CHAIN KNOWS (NoSuchElementException) -/
/-- the words of such a throw: the first constructor's own, then those of a throw of its superclass Y -/
def nt_own (own : String) (ic : Nat) (X Y : String) (idx : Nat) (bytes : ByteArray) (names : List String) : List Cond :=
  Bundle.throwableAtoms ++ Bundle.throwableSAtoms ++ (Bundle.passSAtoms X Y idx bytes ++ Bundle.chainSAtoms Y names) ++
  [.methodLink own ic (Bundle.initS X), .instantiable X 6, .castable X X, .selects X Bundle.tFill0 Bundle.tFill0, .selects X Bundle.tFill Bundle.tFill,
   .lays X Bundle.tN "cause" "Ljava/lang/Throwable;", .lays X Bundle.tN "stackTrace" Bundle.steD, .lays X Bundle.tN "suppressedExceptions" Bundle.listD, .lays X Bundle.tN "detailMessage" "Ljava/lang/String;",
   .isRef (.static Bundle.tN "UNASSIGNED_STACK" Bundle.steD), .isRef (.static Bundle.tN "SUPPRESSED_SENTINEL" Bundle.listD),
   .fieldLink Bundle.tN 198 Bundle.tN "backtrace" "Ljava/lang/Object;", .lays Bundle.tN Bundle.tN "backtrace" "Ljava/lang/Object;", .lays X Bundle.tN "backtrace" "Ljava/lang/Object;"]
def ac_Tn (own : String) (ik ic : Nat) (cls Y : String) (idx : Nat) (bytes : ByteArray) (names : List String) : Prop := Bundle.fit cls = true ∧ Bundle.fit Y = true ∧ (∀ n ∈ names, Bundle.fit n = true) ∧ (decode bytes 0 = .ok (.aload_n 0, 1) ∧ decode bytes 1 = .ok (.aload_n 1, 1) ∧ decode bytes 2 = .ok (.invokespecial idx, 3) ∧ decode bytes 5 = .ok (.return_, 1)) ∧ (∀ w ∈ Cond.classLink own ik cls :: Cond.initialized cls :: (nt_own own ic cls Y idx bytes names).filter vx_no, w ∈ lw_tbl ∧ w.onTables = true ∧ w.keepsFace = true)
/-- the constructor with a text and the throw, where the first constructor hands on by its own pool entry -/
theorem nt_ctor {p : Program} {l : Launch} {e : Env} {R : Room} {s : State} {m0 : MethodId} {args : Array Value} {below : List Frame} {meth : Method} {c : Code} {T0 : State} {locs : List Loc} {cells slots : Nat}
    (X : Stand p l e R s m0 args below meth c T0 locs cells slots) (hexec : p.tables.exec = Jvm.exec) (htr : e.platform.stackTraces = false) {own cls Y : String} {names : List String} {ic idx : Nat} {bytes : ByteArray}
    (hown : s.vm.findClass own = some m0.cls) (hcls : Bundle.fit cls = true) (hY : Bundle.fit Y = true) (hnames : ∀ n ∈ names, Bundle.fit n = true)
    (hd : decode bytes 0 = .ok (.aload_n 0, 1) ∧ decode bytes 1 = .ok (.aload_n 1, 1) ∧ decode bytes 2 = .ok (.invokespecial idx, 3) ∧ decode bytes 5 = .ok (.return_, 1))
    (h : ∀ a ∈ nt_own own ic cls Y idx bytes names, a.before args s = true) (hlocs : ∀ x ∈ locs, ∀ cell, s.heap[x.base]? = some cell → cell.vm.isStatics = false)
    {a : Addr} {cX : ClassId} {kX : Class} (hfX : s.vm.findClass cls = some cX) (hkX : s.vm.classes[cX]? = some kX) (hcell : T0.heap[a]? = some (freshCell cX kX)) (hnew : s.heap.size ≤ a) {msg : Value} (hmsg : msg.isRef = true)
    {g : JFrame} (hg : g.method = m0) (hsize : g.locals.size = c.maxLocals) (hlocked : g.locked = none) (hentered : g.entered = []) {rest : List Value} (hstack : g.stack = msg :: .ref a :: .ref a :: rest)
    (hd6 : decode c.code g.pc = .ok (.invokespecial ic, 3)) (hd9 : decode c.code (g.pc + 3) = .ok (.athrow, 1)) (hout : ∀ x ∈ c.exceptionTable.toList, covers x (g.pc + 3) = false)
    (hRframes : names.length + 4 < R.frames) (hRlocals : 2 * g.monitorRoom + ((Value.ref a :: rest).map fun v => v.category).sum + (13 * (names.length + 2) + 42) ≤ R.locals) (hlocks : meth.locks = false) :
    ∃ U : State, Steps p.tables e below (T0.setTop g) U ∧ U.status = .running ∧ Ended U below (.threw a) ∧ s.WarmedH U.vm ∧ s.sameButNew ({ U with vm := s.vm } : State) locs cells slots ∧
      ∃ ce, U.heap[a]? = some ce ∧ s.vm.findClass cls = some ce.cls ∧ ce.vm = .none := by
  have howns : e.platform.frameOwnsMonitors = true := by rw [X.admits.platform]
  have hfin : e.platform.finalization = false := by rw [X.admits.platform]
  have hpl : e.platform.magicAccessors = ({} : Platform).magicAccessors := by rw [X.admits.platform]
  have at1 : ∀ x, x ∈ nt_own own ic cls Y idx bytes names → x.holds args s none s [] = true := fun x hx => h x hx
  have end1 : ∀ x, x ∈ [Cond.methodLink own ic (Bundle.initS cls), .instantiable cls 6, .castable cls cls, .selects cls Bundle.tFill0 Bundle.tFill0, .selects cls Bundle.tFill Bundle.tFill, .lays cls Bundle.tN "cause" "Ljava/lang/Throwable;", .lays cls Bundle.tN "stackTrace" Bundle.steD, .lays cls Bundle.tN "suppressedExceptions" Bundle.listD, .lays cls Bundle.tN "detailMessage" "Ljava/lang/String;", .isRef (.static Bundle.tN "UNASSIGNED_STACK" Bundle.steD), .isRef (.static Bundle.tN "SUPPRESSED_SENTINEL" Bundle.listD), .fieldLink Bundle.tN 198 Bundle.tN "backtrace" "Ljava/lang/Object;", .lays Bundle.tN Bundle.tN "backtrace" "Ljava/lang/Object;", .lays cls Bundle.tN "backtrace" "Ljava/lang/Object;"] → x.holds args s none s [] = true := fun x hx => at1 x (List.mem_append_right _ hx)
  have pas1 : ∀ x, x ∈ Bundle.passSAtoms cls Y idx bytes → x.before args s = true := fun x hx => h x (List.mem_append_left _ (List.mem_append_right _ (List.mem_append_left _ hx)))
  obtain ⟨T, Z0, L, -, N⟩ := ThrowableC.of_atoms (args := args) howns hfin hpl (fun x hx => h x (List.mem_append_left _ (List.mem_append_left _ (List.mem_append_left _ hx))))
  obtain ⟨Z, M, LZ, LM, hnZ⟩ := Init0T.ofS_atoms (args := args) hpl L N (fun x hx => h x (List.mem_append_left _ (List.mem_append_left _ (List.mem_append_right _ hx))))
  obtain ⟨P1, Ps, hlen, L1, hL, hP1m, hlink1, hlink⟩ := Bundle.chainS (args := args) hpl hnZ names Y hY hnames (fun x hx => h x (List.mem_append_left _ (List.mem_append_right _ (List.mem_append_right _ hx))))
  obtain ⟨P0, L0, hP0m, hP0s⟩ := PassC.ofS_atoms (args := args) (s := s) hpl (X := cls) (Y := Y) (Bundle.fit_spec hcls).1 (Bundle.fit_spec hY).2 hd.1 hd.2.1 hd.2.2.1 hd.2.2.2 pas1
  have hP0 : P0.sup = P1.m := Option.some.inj (hP0s.symm.trans hP1m)
  have hfound : s.vm.findClass cls = some P0.m.cls := findClass_of_methodNamed hP0m
  cases Option.some.inj (hfX.symm.trans hfound)
  obtain ⟨c1, kX', hc1, hk, hord, -, -, hn6⟩ := Cond.instantiable_spec (end1 (.instantiable cls 6) (by simp))
  cases Option.some.inj (hc1.symm.trans hfound)
  cases Option.some.inj (hkX.symm.trans hk)
  have hsel0 : selectMethod e.platform s.vm P0.m.cls T.fill0 = .method T.fill0 := by
    obtain ⟨c2, r2, m2, q1, q2, q3, q4, -⟩ := Cond.selects_spec (end1 (.selects cls Bundle.tFill0 Bundle.tFill0) (by simp))
    cases Option.some.inj (q1.symm.trans hfound)
    cases Option.some.inj (q2.symm.trans (State.methodFound?_of_named N.fill0 (by decide)))
    cases Option.some.inj (q3.symm.trans N.fill0)
    rw [Launch.admits_selectMethod X.admits]; exact q4
  have hselF : selectMethod e.platform s.vm P0.m.cls T.fill = .method T.fill := by
    obtain ⟨c2, r2, m2, q1, q2, q3, q4, -⟩ := Cond.selects_spec (end1 (.selects cls Bundle.tFill Bundle.tFill) (by simp))
    cases Option.some.inj (q1.symm.trans hfound)
    cases Option.some.inj (q2.symm.trans (State.methodFound?_of_named N.fill (by decide)))
    cases Option.some.inj (q3.symm.trans N.fill)
    rw [Launch.admits_selectMethod X.admits]; exact q4
  obtain ⟨S0, hS0, hst⟩ := N.statics
  obtain ⟨u0, hu0⟩ := Cond.staticRefV N.unassigned L.unassignedStatic L.statics hS0 hst (end1 (.isRef (.static Bundle.tN "UNASSIGNED_STACK" Bundle.steD)) (by simp))
  obtain ⟨sen, hsen⟩ := Cond.staticRefV N.sentinel L.sentinelStatic L.statics hS0 hst (end1 (.isRef (.static Bundle.tN "SUPPRESSED_SENTINEL" Bundle.listD)) (by simp))
  obtain ⟨ci, i1, fB, b1, b2, b3, b4, -, b5, b6, b7⟩ := Cond.ownField (t := .object "java/lang/Object") N.found L.cls (by decide +kernel) (end1 (.fieldLink Bundle.tN 198 Bundle.tN "backtrace" "Ljava/lang/Object;") (by simp)) (end1 (.lays Bundle.tN Bundle.tN "backtrace" "Ljava/lang/Object;") (by simp)) e.platform hpl
  obtain ⟨S1, hS1, heS, -, hkeep⟩ := X.same.2.2.2.2.2 T.aS S0 hS0
  have out : ∀ i, (⟨T.aS, i⟩ : Loc) ∉ locs := fun i hmem => by
    have := hlocs _ hmem S0 hS0
    rw [hst] at this; cases this
  have hkS : S1.vm ≠ .unknown := by
    rw [heS]; intro hu
    rw [show S0.vm = .unknown from hu] at hst
    cases hst
  have hneS : T.aS ≠ a := Nat.ne_of_lt (Nat.lt_of_lt_of_le (Array.getElem?_eq_some_iff.mp hS0).1 hnew)
  obtain ⟨iM, hM⟩ := N.msg
  obtain ⟨tyC, dC, hdC, hnC⟩ := Cond.laysAt hfound hk N.cause (end1 (.lays cls Bundle.tN "cause" "Ljava/lang/Throwable;") (by simp))
  obtain ⟨tyS, dS, hdS, hnS⟩ := Cond.laysAt hfound hk N.stack (end1 (.lays cls Bundle.tN "stackTrace" Bundle.steD) (by simp))
  obtain ⟨tyP, dP, hdP, hnP⟩ := Cond.laysAt hfound hk N.supp (end1 (.lays cls Bundle.tN "suppressedExceptions" Bundle.listD) (by simp))
  obtain ⟨tyM, dM, hdM, hnM⟩ := Cond.laysAt hfound hk hM (end1 (.lays cls Bundle.tN "detailMessage" "Ljava/lang/String;") (by simp))
  obtain ⟨tyB, dB, hdB, hnB⟩ := Cond.laysAt hfound hk b7 (end1 (.lays cls Bundle.tN "backtrace" "Ljava/lang/Object;") (by simp))
  have bC := Cond.laysApart hdB hdC hnB hnC (by rw [b5, N.causeName]; decide)
  have bS := Cond.laysApart hdB hdS hnB hnS (by rw [b5, N.stackName]; decide)
  have bP := Cond.laysApart hdB hdP hnB hnP (by rw [b5, N.suppName]; decide)
  have skip : SkipFacts T e.platform s (fun u => u) u0 ((preparedCellV T.toThrowableT (freshCell P0.m.cls kX) a u0 sen).withEntry T0.cur) :=
    ⟨{ ci198 := ci, i198 := i1, fBack := fB }, ⟨b1, b2, b3, b4⟩, by
      have := fresh_default (c := P0.m.cls) tyB
      rw [b6] at this
      simpa [preparedCellV, Cell.setSlot, Cell.withEntry, Array.getElem?_setIfInBounds, bC, bS, bP, bC.symm, bS.symm, bP.symm, defaultValue] using this, fun _ _ => rfl⟩
  obtain ⟨tm, methC, cdC, kC, vm1, hnCt, -, -, -, -, -, -, -, hW1, st1⟩ := Steps.initColdS (tb := p.tables) (e := e) (below := below) (s := s) (U := T0) X.here hexec X.warmed hpl hown (t := Bundle.initS cls) rfl rfl (Bundle.fit_spec hcls).2
    (end1 (.methodLink own ic (Bundle.initS cls)) (by simp)) (pas1 (.instanceMethod (Bundle.initS cls)) (by simp [Bundle.passSAtoms])) (bytes := bytes) (maxL := 2) (pas1 (.code (Bundle.initS cls) bytes 2 none) (by simp [Bundle.passSAtoms])) (f := g) hg (a := a) (msg := msg) (rest := .ref a :: rest) hstack hd6
  cases Option.some.inj (hnCt.symm.trans hP0m)
  have X1 := X.noted hW1
  obtain ⟨vm2, X2, st2⟩ := X1.ctorMessageOffV hexec (g := { g with stack := .ref a :: rest }) hg hsize T L Z LZ M LM (P0 :: P1 :: Ps)
    (fun P hP => by
      rcases List.mem_cons.mp hP with rfl | hP
      · exact L0
      · rcases List.mem_cons.mp hP with rfl | hP
        · exact L1
        · exact hL P hP) ⟨hP0, hlink1, hlink⟩ (u0 := u0) (sen := sen) (self := a) hmsg (cell := freshCell P0.m.cls kX) (cellS := S1)
    hcell (fun _ => by simp) (by simp) rfl rfl hsel0 hselF hS1 hneS hkS (by rw [hkeep _ (out _)]; exact hu0) (by rw [hkeep _ (out _)]; exact hsen)
    (Takes.of_laid hk hord tyC (by rw [N.causeType]; rfl)) (Takes.of_laid hk hord tyS (by rw [N.stackType]; exact fits_refV_array _ u0)) (Takes.of_laid hk hord tyP (by rw [N.suppType]; exact fits_refV_object _ sen))
    (Takes.of_laid hk hord tyM (by rw [N.msgType]; exact fits_refV_object _ ⟨msg, hmsg⟩)) N.objLocals skip htr [] hd6
    (by simp only [List.length_cons, hlen]; omega) (by simp only [List.length_cons, hlen]; exact hRlocals)
  obtain ⟨hwalk, hrun, hended, hWU, hsame⟩ := X2.athrowLeaves hexec (g := { g with stack := .ref a :: rest, pc := g.pc + 3 }) hg hlocked hentered hout (a := a) (rest := rest) rfl hd9
  have hlt : a < ((T0.setVm vm1).setVm vm2).heap.size := (Array.getElem?_eq_some_iff.mp hcell).1
  have hU := heapAt_setCell_self (s := (T0.setVm vm1).setVm vm2) (plainBareV T.toThrowableT (freshCell P0.m.cls kX) a u0 sen msg) hlt
  refine ⟨_, st1 _ (fun acts => ?_), hrun, hended, hWU, hsame.weaken (fun y hy hlt' => ?_) (Nat.le_refl _) (Nat.le_refl _), _, hU, hfound, rfl⟩
  · rw [doInvoke_state]
    exact st2 _ hwalk
  · rcases List.mem_append.mp hy with h1 | h1
    · exact h1
    · exfalso
      have hb : y.base = a := by
        simp only [List.mem_cons, List.not_mem_nil, or_false] at h1
        rcases h1 with rfl | rfl | rfl | rfl | rfl <;> rfl
      rw [hb] at hlt'
      exact Nat.not_lt.mpr hnew hlt'
theorem nt_throwW {p : Program} {l : Launch} {e : Env} {R : Room} {s : State} {m : MethodId} {args : Array Value} {below : List Frame} {meth : Method} {c : Code} {H : Heap} {locs : List Loc} {cells slots : Nat} {ls : Array Slot} {rest : List Value} {Qc : Array Value → State → Outcome → State → Prop} {XC : String → State → State → Prop} {free : Addr → Prop}
    {cc : ByteArray} {pc : Nat} (hexec : p.tables.exec = Jvm.exec) (hb : c.code = cc) (hl : l.stackTraces = false) {own cls text Y : String} {names : List String} {ik is ic idx mc ms sa : Nat} {bytes : ByteArray} {A : Nat → Prop}
    (hown : s.vm.findClass own = some m.cls) (hcls : Bundle.fit cls = true) (hY : Bundle.fit Y = true) (hnames : ∀ n ∈ names, Bundle.fit n = true)
    (hd : decode bytes 0 = .ok (.aload_n 0, 1) ∧ decode bytes 1 = .ok (.aload_n 1, 1) ∧ decode bytes 2 = .ok (.invokespecial idx, 3) ∧ decode bytes 5 = .ok (.return_, 1))
    (hk : (Cond.classLink own ik cls).before args s = true) (hini : (Cond.initialized cls).before args s = true) (hstr : vk_R own is text sa s) (hat : ∀ w ∈ (nt_own own ic cls Y idx bytes names).filter vx_no, w.before args s = true)
    (hgood : ∀ w ∈ Cond.classLink own ik cls :: Cond.initialized cls :: (nt_own own ic cls Y idx bytes names).filter vx_no, vx_ot w = true)
    (hU : vx_Zq Bundle.tN "UNASSIGNED_STACK" Bundle.steD A s s.heap) (hN : vx_Zq Bundle.tN "SUPPRESSED_SENTINEL" Bundle.listD A s s.heap) (hS : va_S A s.heap H locs) (hsize : ls.size = c.maxLocals)
    (d0 : decode cc pc = .ok (.new ik, 3)) (d3 : decode cc (pc + 3) = .ok (.dup, 1)) (d4 : decode cc (pc + 4) = .ok (.ldc_w is, 3)) (d7 : decode cc (pc + 7) = .ok (.invokespecial ic, 3)) (d10 : decode cc (pc + 10) = .ok (.athrow, 1))
    (hout : ∀ x ∈ c.exceptionTable.toList, covers x (pc + 10) = false)
    (hRframes : names.length + 4 < R.frames) (hRlocals : (rest.map fun v => v.category).sum + (13 * (names.length + 2) + 43) ≤ R.locals) (hRcells : cells + 1 ≤ R.cells) (hRslots : slots + 6 ≤ R.slots) (hlocks : meth.locks = false)
    (hx : ∀ t : State, s.vm.Alike t.vm → H.size ≤ t.heap.size → (∀ q : Nat, q < H.size → t.heap[q]? = H[q]?) → XC cls s t)
    (hf : ∀ z ∈ locs, free z.base) (hc : cells + 1 ≤ mc) (hs : slots + 6 ≤ ms) :
    W p l e R s m args below meth c H locs cells slots (vx_MQ below Qc XC args s mc ms free) (F0 m pc ls rest) := by
  intro T hT X
  have htr : e.platform.stackTraces = false := (show e.platform.stackTraces = l.stackTraces by rw [X.admits.platform]).trans hl
  have Y1 := vx_rebase X (R' := { frames := R.frames, locals := R.locals, cells := 1, slots := 6 }) (Nat.le_refl _) (Nat.le_refl _) hRcells hRslots
  obtain ⟨s', hA⟩ : ∃ z, z = (T.setVm s.vm).setFrames (.invoking m args :: below) := ⟨_, rfl⟩
  rw [← hA] at Y1
  have hvm : s'.vm = s.vm := by rw [hA]; rfl
  have hhp : s'.heap = H := by rw [hA]; exact hT
  have hW0 : s.WarmedH s'.vm := by rw [hvm]; exact State.WarmedH.refl s
  have mv1 : ∀ w ∈ Cond.classLink own ik cls :: Cond.initialized cls :: (nt_own own ic cls Y idx bytes names).filter vx_no, w.before args s = true → w.before args s' = true := fun w hw h => vx_ot_at hW0 hvm.symm (hgood w hw) h
  have hU' : vx_Zq Bundle.tN "UNASSIGNED_STACK" Bundle.steD A s' s'.heap := by rw [hhp]; exact vx_Zq.moved hW0.alike (hU.kept hS.2.1)
  have hN' : vx_Zq Bundle.tN "SUPPRESSED_SENTINEL" Bundle.listD A s' s'.heap := by rw [hhp]; exact vx_Zq.moved hW0.alike (hN.kept hS.2.1)
  have h : ∀ w ∈ nt_own own ic cls Y idx bytes names, w.before args s' = true := vx_own (fun w hw => mv1 w (List.mem_cons_of_mem _ (List.mem_cons_of_mem _ hw)) (hat w hw)) (vx_isRefq hU'.1) (vx_isRefq hN'.1) hU'.2.word hN'.2.word
  have hown' : s'.vm.findClass own = some m.cls := by rw [hvm]; exact hown
  obtain ⟨vm1, cX, kX, hfX, hkX, -, -, X1, st1⟩ := Y1.newCold hexec (own := own) (C := cls) (index := ik) (n := 6) hown' (mv1 _ List.mem_cons_self hk) (h (.instantiable cls 6) (List.mem_append_right _ (by simp))) (mv1 _ (List.mem_cons_of_mem _ List.mem_cons_self) hini)
    (g := F0 m pc ls rest) rfl (by rw [hb]; exact d0) (Nat.le_refl _) (Nat.le_refl _)
  generalize hT1 : (T.setVm vm1).pushCell { cls := cX, slots := kX.instanceTypes.map defaultValue, vm := .none } = T1 at X1 st1
  have hcat : (Value.ref T.heap.size).category = 1 := rfl
  have hcellA : T1.heap[T.heap.size]? = some (freshCell cX kX) := by rw [← hT1]; exact State.heap_pushCell_size _ _
  have d3' : decode c.code (pc + 3) = .ok (.dup, 1) := by rw [hb]; exact d3
  have d4' : decode c.code (pc + 4) = .ok (.ldc_w is, 3) := by rw [hb]; exact d4
  have hstr' : vk_R own is text sa s' := vk_R.warm hW0 hstr
  obtain ⟨U, hsteps, hrun, hend, hW, hsame, ce, hce, hO, hOv⟩ := nt_ctor X1 hexec htr (own := own) (cls := cls) (Y := Y) (names := names) (ic := ic) (idx := idx) hown' hcls hY hnames hd h (fun x hx => nomatch hx) hfX hkX hcellA (by rw [hhp, hT]; exact Nat.le_refl _) (msg := .ref sa) rfl
    (g := { method := m, pc := pc + 7, locals := ls, stack := .ref sa :: .ref T.heap.size :: .ref T.heap.size :: rest, locked := none }) rfl hsize rfl rfl (rest := rest) rfl
    (by rw [hb]; exact d7) (by rw [hb]; exact d10) hout hRframes (by simp only [List.map_cons, List.sum_cons, hcat]; show 2 * 0 + _ + _ ≤ _; omega) hlocks
  obtain ⟨f1, f2⟩ := vx_frame hsame
  rw [hhp] at f1 f2
  have hWs : s.WarmedH U.vm := State.WarmedH.trans hW0 hW
  have hcl : s.vm.findClass cls = some ce.cls := by
    rw [hvm] at hO
    exact hO
  have hall : s.sameButNew ({ U with vm := s.vm } : State) locs mc ms := by
    subst hA
    obtain ⟨e1, e2⟩ := hsame
    rw [State.setFrames_setFrames] at e1
    have h2 : (T.setVm s.vm).sameButNew ({ U with vm := s.vm } : State) [] (0 + 1) (0 + 6) := ⟨e1, e2⟩
    have h3 := X.same.trans h2
    rw [List.append_nil] at h3
    exact h3.mono hc hs
  refine ⟨U, ?_, .threw T.heap.size, hrun, hend, Or.inr ⟨T.heap.size, rfl, cls, ce, locs, hx U hWs.alike f1 (fun q hq => f2 q hq (fun z hz => nomatch hz)), hce, hOv, hcl, hWs, hall, hf⟩⟩
  refine st1 _ ?_
  show Steps p.tables e below (T1.setTop { method := m, pc := pc + 3, locals := ls, stack := .ref T.heap.size :: rest, locked := none }) _
  jvm_step X1.here [X1.here.top, hexec, d3', Value.category]
  exact X1.ldcStringW hexec (own := own) (text := text) (index := is) (a := sa) hown' hstr'.1 hstr'.2
    (g := { method := m, pc := pc + 4, locals := ls, stack := .ref T.heap.size :: .ref T.heap.size :: rest, locked := none }) rfl d4' _ hsteps
section AXN
variable {g : ac_G} {I I2 : ac_I} {d mc ms mc2 ms2 ce sl pc pc' n idx : Nat} {Q : ac_O → ac_W → Prop} {L : List (Option Value)} {S : List Value} {w : ac_W}
theorem ax_throwN {ik is ic i idx : Nat} {cls text Y : String} {bytes : List Int32} {bs : ByteArray} {names : List String} (hT : ac_Tn I.1.cls ik ic cls Y idx bs names) (hi : ac_str[i]? = some (I.1.cls, is, text, bytes)) (hh : I.2.2.2.2 = [])
    (d0 : decode I.2.1 pc = .ok (.new ik, 3)) (d3 : decode I.2.1 (pc + 3) = .ok (.dup, 1)) (d4 : decode I.2.1 (pc + 4) = .ok (.ldc_w is, 3)) (d7 : decode I.2.1 (pc + 7) = .ok (.invokespecial ic, 3)) (d10 : decode I.2.1 (pc + 10) = .ok (.athrow, 1))
    (hw : Nat.ble ((S.map fun v => v.category).sum) 8 = true) (hnl : Nat.ble names.length 4 = true) (hc : Nat.ble (ce + 1) mc = true) (hsl : Nat.ble (sl + 6) ms = true) (hQ : Q (.inr cls) (false, w.2)) : ac_X g I d mc ms Q ce sl pc L S w := by
  intro p e s m args below meth c X H locs ls hR hS hL
  obtain ⟨t1, t1y, t2, tb, t3⟩ := hT
  have hA := X.2.2.2.2.2.2.2.2.2.1
  have hN := hA.2.2.2.1
  have hwd : ∀ x ∈ Cond.classLink I.1.cls ik cls :: Cond.initialized cls :: (nt_own I.1.cls ic cls Y idx bs names).filter vx_no, x.before args s = true := fun x hx => va_Nw.use (t3 x hx).2.1 (hN.1 x (t3 x hx).1 (t3 x hx).2.1 (t3 x hx).2.2)
  have hnl' : names.length ≤ 4 := Nat.le_of_ble_eq_true hnl
  have hw' : (S.map fun v => v.category).sum ≤ 8 := Nat.le_of_ble_eq_true hw
  have hc' : ce + 1 ≤ mc := Nat.le_of_ble_eq_true hc
  have hs' : sl + 6 ≤ ms := Nat.le_of_ble_eq_true hsl
  refine nt_throwW (A := ac_Z g) (names := names) (Y := Y) (idx := idx) X.1 X.2.1 X.2.2.2.2.2.2.2.2.2.2.2 X.2.2.2.2.2.1 t1 t1y t2 tb (hwd _ List.mem_cons_self) (hwd _ (List.mem_cons_of_mem _ List.mem_cons_self)) (hA.2.2.2.2.2.2 i _ hi).1 (fun x hx => hwd x (List.mem_cons_of_mem _ (List.mem_cons_of_mem _ hx)))
    (fun x hx => by unfold vx_ot; rw [(t3 x hx).2.1]; rfl) hA.2.1 hA.2.2.1 hS (by rw [hL.1]; exact X.2.2.1.symm) d0 d3 d4 d7 d10 (by
      rw [X.2.2.2.2.2.2.2.1, hh]
      intro x hx
      cases hx) (by show names.length + 4 < d + 12; omega) (by rw [ac_sum]; show _ ≤ 64 * d + 256; omega) (by show ce + 1 ≤ mc; exact hc') (by show sl + 6 ≤ ms; exact hs') X.2.2.2.2.1 (fun t hvm hz hk => ?_) hS.2.2 hc' hs'
  have hS2 : va_S (ac_Z g) s.heap t.heap locs := ⟨Nat.le_trans hS.1 hz, fun q h1 h2 => by rw [hk q (Nat.lt_of_lt_of_le h1 hS.1)]; exact hS.2.1 q h1 h2, hS.2.2⟩
  refine ⟨(false, w.2), hQ, ⟨fun k q hq => (hR.1 k q hq).kept (hk _ (hR.1 k q hq).lt), hR.2.1, Nat.le_trans hR.2.2.1 hz, fun z => by cases z⟩, hS2.F rfl⟩
end AXN
