/-! a class of exceptions whose constructor's link bears any number ix (the texts that follow begin as rows of kit/laws/EXCEPTIONS.to-paste and of this program's printed names) -/
def xAt (own : String) (ic : Nat) (X Yn : String) (ix : Nat) (rx : ByteArray) (rn : List String) : List Cond :=
  Bundle.throwableAtoms ++ Bundle.throwableSAtoms ++ (Bundle.passSAtoms X Yn ix rx ++ Bundle.chainSAtoms Yn rn) ++
  [.methodLink own ic (Bundle.initS X), .instantiable X 6, .castable X X, .selects X Bundle.tFill0 Bundle.tFill0, .selects X Bundle.tFill Bundle.tFill,
   .lays X Bundle.tN "cause" "Ljava/lang/Throwable;", .lays X Bundle.tN "stackTrace" Bundle.steD, .lays X Bundle.tN "suppressedExceptions" Bundle.listD, .lays X Bundle.tN "detailMessage" "Ljava/lang/String;",
   .isRef (.static Bundle.tN "UNASSIGNED_STACK" Bundle.steD), .isRef (.static Bundle.tN "SUPPRESSED_SENTINEL" Bundle.listD),
   .fieldLink Bundle.tN 198 Bundle.tN "backtrace" "Ljava/lang/Object;", .lays Bundle.tN Bundle.tN "backtrace" "Ljava/lang/Object;", .lays X Bundle.tN "backtrace" "Ljava/lang/Object;"]
section XCT
variable {p : Program} {l : Launch} {e : Env} {R : Room} {s : State} {m₀ : MethodId} {args : Array Value} {below : List Frame} {meth : Method} {c : Code} {W : State} {locs : List Loc} {cells slots : Nat}
set_option maxHeartbeats 1000000 in
theorem vx_ctorMadeX (X : Stand p l e R s m₀ args below meth c W locs cells slots) (hexec : p.tables.exec = Jvm.exec) (htr : e.platform.stackTraces = false) {own cls Yn : String} {rn : List String} {ic ix : Nat} {rx : ByteArray} (x0 : decode rx 0 = .ok (.aload_n 0, 1)) (x1 : decode rx 1 = .ok (.aload_n 1, 1)) (x2 : decode rx 2 = .ok (.invokespecial ix, 3)) (x5 : decode rx 5 = .ok (.return_, 1))
    (hown : s.vm.findClass own = some m₀.cls) (hcls : Bundle.fit cls = true) (hY : Bundle.fit Yn = true) (hnames : ∀ n ∈ rn, Bundle.fit n = true)
    (h : ∀ a ∈ xAt own ic cls Yn ix rx rn, a.before args s = true)
    (hlocs : ∀ x ∈ locs, ∀ cell, s.heap[x.base]? = some cell → cell.vm.isStatics = false)
    {a : Addr} {cX : ClassId} {kX : Class} (hfoundX : s.vm.findClass cls = some cX) (hkX : s.vm.classes[cX]? = some kX) (hcell : W.heap[a]? = some (freshCell cX kX)) (hnew : s.heap.size ≤ a)
    {msg : Value} (hmsg : msg.isRef = true)
    {g : JFrame} (hg : g.method = m₀) (hsize : g.locals.size = c.maxLocals) {rest : List Value} (hstack : g.stack = msg :: .ref a :: .ref a :: rest)
    (hd6 : decode c.code g.pc = .ok (.invokespecial ic, 3))
    (hRframes : rn.length + 4 < R.frames) (hRlocals : 2 * g.monitorRoom + ((Value.ref a :: rest).map fun v => v.category).sum + (13 * (rn.length + 2) + 42) ≤ R.locals) :
    ∃ (V : State) (ce : Cell) (L : List Loc), Stand p l e R s m₀ args below meth c (V.setCell a ce) (locs ++ L) cells slots ∧ (∀ y ∈ L, y.base = a) ∧ a < V.heap.size ∧ ce.cls = cX ∧ ce.vm = .none ∧
      ∀ target, Steps p.tables e below ((V.setCell a ce).setTop { g with stack := .ref a :: rest, pc := g.pc + 3 }) target → Steps p.tables e below (W.setTop g) target := by
  have howns : e.platform.frameOwnsMonitors = true := by rw [X.admits.platform]
  have hfin : e.platform.finalization = false := by rw [X.admits.platform]
  have hpl : e.platform.magicAccessors = ({} : Platform).magicAccessors := by rw [X.admits.platform]
  have a' : ∀ x, x ∈ xAt own ic cls Yn ix rx rn → x.holds args s none s [] = true := fun x hx => h x hx
  obtain ⟨T, Z0, L, -, Y⟩ := ThrowableC.of_atoms (args := args) howns hfin hpl (fun x hx => h x (by simp [xAt, hx]))
  obtain ⟨Z, M, LZ, LM, hnZ⟩ := Init0T.ofS_atoms (args := args) hpl L Y (fun x hx => h x (by simp [xAt, hx]))
  obtain ⟨P1, L1, hP1m, hs1⟩ := PassC.ofS_atoms (args := args) (s := s) hpl (X := cls) (Y := Yn) (Bundle.fit_spec hcls).1 (Bundle.fit_spec hY).2 x0 x1 x2 x5 (fun x hx => h x (by simp [xAt, hx]))
  obtain ⟨P2, Ps, hlen, L2, hL, hm2, hlink1, hlink⟩ := Bundle.chainS (args := args) hpl hnZ rn Yn hY hnames (fun x hx => h x (by simp [xAt, hx]))
  have hfound : s.vm.findClass cls = some P1.m.cls := findClass_of_methodNamed hP1m
  cases Option.some.inj (hfoundX.symm.trans hfound)
  obtain ⟨c1, kX', hc1, hk, hord, -, -, hn6⟩ := Cond.instantiable_spec (a' (.instantiable cls 6) (by simp [xAt]))
  cases Option.some.inj (hc1.symm.trans hfound)
  cases Option.some.inj (hkX.symm.trans hk)
  have hsel0 : selectMethod e.platform s.vm P1.m.cls T.fill0 = .method T.fill0 := by
    obtain ⟨c2, r2, m2, q1, q2, q3, q4, -⟩ := Cond.selects_spec (a' (.selects cls Bundle.tFill0 Bundle.tFill0) (by simp [xAt]))
    cases Option.some.inj (q1.symm.trans hfound)
    cases Option.some.inj (q2.symm.trans (State.methodFound?_of_named Y.fill0 (by decide)))
    cases Option.some.inj (q3.symm.trans Y.fill0)
    rw [Launch.admits_selectMethod X.admits]; exact q4
  have hselF : selectMethod e.platform s.vm P1.m.cls T.fill = .method T.fill := by
    obtain ⟨c2, r2, m2, q1, q2, q3, q4, -⟩ := Cond.selects_spec (a' (.selects cls Bundle.tFill Bundle.tFill) (by simp [xAt]))
    cases Option.some.inj (q1.symm.trans hfound)
    cases Option.some.inj (q2.symm.trans (State.methodFound?_of_named Y.fill (by decide)))
    cases Option.some.inj (q3.symm.trans Y.fill)
    rw [Launch.admits_selectMethod X.admits]; exact q4
  obtain ⟨cellS0, hcS0, hiss⟩ := Y.statics
  obtain ⟨u0, hu0⟩ := Cond.staticRefV Y.unassigned L.unassignedStatic L.statics hcS0 hiss (a' (.isRef (.static Bundle.tN "UNASSIGNED_STACK" Bundle.steD)) (by simp [xAt]))
  obtain ⟨sen, hsen⟩ := Cond.staticRefV Y.sentinel L.sentinelStatic L.statics hcS0 hiss (a' (.isRef (.static Bundle.tN "SUPPRESSED_SENTINEL" Bundle.listD)) (by simp [xAt]))
  obtain ⟨ci198, i198, fB, hk198, hg198, ha198, hsB, -, hnB, htB, hffB⟩ := Cond.ownField (t := .object "java/lang/Object") Y.found L.cls (by decide +kernel) (a' (.fieldLink Bundle.tN 198 Bundle.tN "backtrace" "Ljava/lang/Object;") (by simp [xAt])) (a' (.lays Bundle.tN Bundle.tN "backtrace" "Ljava/lang/Object;") (by simp [xAt])) e.platform hpl
  obtain ⟨cellS, hcS', heS, -, hkeep⟩ := X.same.2.2.2.2.2 T.aS cellS0 hcS0
  have hcellS : W.heap[T.aS]? = some cellS := hcS'
  have hout' : ∀ i, (⟨T.aS, i⟩ : Loc) ∉ locs := fun i hmem => by
    have := hlocs _ hmem cellS0 hcS0
    rw [hiss] at this; cases this
  have hknownS : cellS.vm ≠ .unknown := by
    rw [heS]; intro hu
    rw [show cellS0.vm = .unknown from hu] at hiss
    cases hiss
  have hneS : T.aS ≠ a := Nat.ne_of_lt (Nat.lt_of_lt_of_le (Array.getElem?_eq_some_iff.mp hcS0).1 hnew)
  obtain ⟨iM, hffM⟩ := Y.msg
  obtain ⟨tyC, dC, hdC, hdnC⟩ := Cond.laysAt hfound hk Y.cause (a' (.lays cls Bundle.tN "cause" "Ljava/lang/Throwable;") (by simp [xAt]))
  obtain ⟨tyS, dS, hdS, hdnS⟩ := Cond.laysAt hfound hk Y.stack (a' (.lays cls Bundle.tN "stackTrace" Bundle.steD) (by simp [xAt]))
  obtain ⟨tyP, dP, hdP, hdnP⟩ := Cond.laysAt hfound hk Y.supp (a' (.lays cls Bundle.tN "suppressedExceptions" Bundle.listD) (by simp [xAt]))
  obtain ⟨tyM, dM, hdM, hdnM⟩ := Cond.laysAt hfound hk hffM (a' (.lays cls Bundle.tN "detailMessage" "Ljava/lang/String;") (by simp [xAt]))
  obtain ⟨tyB, dB, hdB, hdnB⟩ := Cond.laysAt hfound hk hffB (a' (.lays cls Bundle.tN "backtrace" "Ljava/lang/Object;") (by simp [xAt]))
  have bC := Cond.laysApart hdB hdC hdnB hdnC (by rw [hnB, Y.causeName]; decide)
  have bS := Cond.laysApart hdB hdS hdnB hdnS (by rw [hnB, Y.stackName]; decide)
  have bP := Cond.laysApart hdB hdP hdnB hdnP (by rw [hnB, Y.suppName]; decide)
  have hskip : SkipFacts T e.platform s (fun u => u) u0 ((preparedCellV T.toThrowableT (freshCell P1.m.cls kX) a u0 sen).withEntry W.cur) :=
    ⟨{ ci198 := ci198, i198 := i198, fBack := fB }, ⟨hk198, hg198, ha198, hsB⟩, by
      have := fresh_default (c := P1.m.cls) tyB
      rw [htB] at this
      simpa [preparedCellV, Cell.setSlot, Cell.withEntry, Array.getElem?_setIfInBounds, bC, bS, bP, bC.symm, bS.symm, bP.symm, defaultValue] using this, fun _ _ => rfl⟩
  obtain ⟨tm, methC, cdC, kC, vm₁, hnC, -, -, -, -, -, -, -, hW₁, st1⟩ := Steps.initColdS (tb := p.tables) (e := e) (below := below) (s := s) (U := W) X.here hexec X.warmed hpl hown (t := Bundle.initS cls) rfl rfl (Bundle.fit_spec hcls).2
    (a' (.methodLink own ic (Bundle.initS cls)) (by simp [xAt])) (h (.instanceMethod (Bundle.initS cls)) (by simp [xAt, Bundle.passSAtoms])) (bytes := rx) (maxL := 2) (h (.code (Bundle.initS cls) rx 2 none) (by simp [xAt, Bundle.passSAtoms]))
    (f := g) hg (a := a) (msg := msg) (rest := .ref a :: rest) hstack hd6
  cases Option.some.inj (hnC.symm.trans hP1m)
  have X₁ := X.noted hW₁
  obtain ⟨vm₂, X₂, st2⟩ := X₁.ctorMessageOffV hexec (g := { g with stack := .ref a :: rest }) hg hsize T L Z LZ M LM (P1 :: P2 :: Ps)
    (fun P hP => by rcases List.mem_cons.mp hP with rfl | hP; exact L1; rcases List.mem_cons.mp hP with rfl | hP; exact L2; exact hL P hP) ⟨Option.some.inj (hs1.symm.trans hm2), hlink1, hlink⟩ (u0 := u0) (sen := sen) (self := a) hmsg (cell := freshCell P1.m.cls kX) (cellS := cellS)
    hcell (fun _ => by simp) (by simp) rfl rfl hsel0 hselF hcellS hneS hknownS (by rw [hkeep _ (hout' _)]; exact hu0) (by rw [hkeep _ (hout' _)]; exact hsen)
    (Takes.of_laid hk hord tyC (by rw [Y.causeType]; rfl)) (Takes.of_laid hk hord tyS (by rw [Y.stackType]; exact fits_refV_array _ u0)) (Takes.of_laid hk hord tyP (by rw [Y.suppType]; exact fits_refV_object _ sen))
    (Takes.of_laid hk hord tyM (by rw [Y.msgType]; exact fits_refV_object _ ⟨msg, hmsg⟩)) Y.objLocals hskip htr [] hd6
    (by simp only [List.length_cons, hlen]; omega) (by simp only [List.length_cons, hlen]; exact hRlocals)
  have hlt : a < ((W.setVm vm₁).setVm vm₂).heap.size := (Array.getElem?_eq_some_iff.mp hcell).1
  refine ⟨(W.setVm vm₁).setVm vm₂, _, _, X₂, fun y hy => ?_, hlt, rfl, rfl, fun target hwalk => st1 _ (fun acts => ?_)⟩
  · simp only [List.mem_cons, List.not_mem_nil, or_false] at hy
    rcases hy with rfl | rfl | rfl | rfl | rfl <;> rfl
  · rw [doInvoke_state]
    exact st2 _ hwalk
end XCT
section XTH
variable {p : Program} {l : Launch} {e : Env} {R : Room} {s : State} {m : MethodId} {args : Array Value} {below : List Frame} {meth : Method} {c : Code} {H : Heap} {locs : List Loc} {cells slots : Nat} {free : Addr → Prop} {ls : Array Slot} {rest : List Value} {Qc : Array Value → State → Outcome → State → Prop} {XC : String → State → State → Prop}
theorem vx_throwX {cc : ByteArray} {pc : Nat} (hexec : p.tables.exec = Jvm.exec) (hb : c.code = cc) (hl : l.stackTraces = false) {own cls Yn text : String} {rn : List String} {ik is ic ix mc ms sa : Nat} {rx : ByteArray} (x0 : decode rx 0 = .ok (.aload_n 0, 1)) (x1 : decode rx 1 = .ok (.aload_n 1, 1)) (x2 : decode rx 2 = .ok (.invokespecial ix, 3)) (x5 : decode rx 5 = .ok (.return_, 1)) {A : Nat → Prop}
    (hown : s.vm.findClass own = some m.cls) (hcls : Bundle.fit cls = true) (hY : Bundle.fit Yn = true) (hnames : ∀ n ∈ rn, Bundle.fit n = true)
    (hk : (Cond.classLink own ik cls).before args s = true) (hini : (Cond.initialized cls).before args s = true) (hstr : vk_R own is text sa s) (hat : ∀ w ∈ (xAt own ic cls Yn ix rx rn).filter vx_no, w.before args s = true)
    (hgood : ∀ w ∈ Cond.classLink own ik cls :: Cond.initialized cls :: (xAt own ic cls Yn ix rx rn).filter vx_no, vx_ot w = true)
    (hU : vx_Zq Bundle.tN "UNASSIGNED_STACK" Bundle.steD A s s.heap) (hN : vx_Zq Bundle.tN "SUPPRESSED_SENTINEL" Bundle.listD A s s.heap) (hS : va_S A s.heap H locs) (hsize : ls.size = c.maxLocals)
    (d0 : decode cc pc = .ok (.new ik, 3)) (d3 : decode cc (pc + 3) = .ok (.dup, 1)) (d4 : decode cc (pc + 4) = .ok (.ldc is, 2)) (d6 : decode cc (pc + 6) = .ok (.invokespecial ic, 3)) (d9 : decode cc (pc + 9) = .ok (.athrow, 1))
    (hout : ∀ x ∈ c.exceptionTable.toList, covers x (pc + 9) = false)
    (hRframes : rn.length + 4 < R.frames) (hRlocals : (rest.map fun v => v.category).sum + (13 * (rn.length + 2) + 43) ≤ R.locals) (hRcells : cells + 1 ≤ R.cells) (hRslots : slots + 6 ≤ R.slots) (hlocks : meth.locks = false)
    (hx : ∀ t : State, s.vm.Alike t.vm → H.size ≤ t.heap.size → (∀ q : Nat, q < H.size → t.heap[q]? = H[q]?) → XC cls s t)
    (hf : ∀ z ∈ locs, free z.base) (hc : cells + 1 ≤ mc) (hs : slots + 6 ≤ ms) :
    W p l e R s m args below meth c H locs cells slots (vx_MQ below Qc XC args s mc ms free) (F0 m pc ls rest) := by
  intro T hT X
  have htr : e.platform.stackTraces = false := (show e.platform.stackTraces = l.stackTraces by rw [X.admits.platform]).trans hl
  have Y := vx_rebase X (R' := { frames := R.frames, locals := R.locals, cells := 1, slots := 6 }) (Nat.le_refl _) (Nat.le_refl _) hRcells hRslots
  obtain ⟨s', hA⟩ : ∃ z, z = (T.setVm s.vm).setFrames (.invoking m args :: below) := ⟨_, rfl⟩
  rw [← hA] at Y
  have hvm : s'.vm = s.vm := by rw [hA]; rfl
  have hhp : s'.heap = H := by rw [hA]; exact hT
  have hW0 : s.WarmedH s'.vm := by rw [hvm]; exact State.WarmedH.refl s
  have hat' : ∀ w ∈ (xAt own ic cls Yn ix rx rn).filter vx_no, w.before args s' = true := fun w hw => vx_ot_at hW0 hvm.symm (hgood w (List.mem_cons_of_mem _ (List.mem_cons_of_mem _ hw))) (hat w hw)
  have hk' : (Cond.classLink own ik cls).before args s' = true := vx_ot_at hW0 hvm.symm (hgood _ List.mem_cons_self) hk
  have hini' : (Cond.initialized cls).before args s' = true := vx_ot_at hW0 hvm.symm (hgood _ (List.mem_cons_of_mem _ List.mem_cons_self)) hini
  have hU' : vx_Zq Bundle.tN "UNASSIGNED_STACK" Bundle.steD A s' s'.heap := by rw [hhp]; exact vx_Zq.moved hW0.alike (hU.kept hS.2.1)
  have hN' : vx_Zq Bundle.tN "SUPPRESSED_SENTINEL" Bundle.listD A s' s'.heap := by rw [hhp]; exact vx_Zq.moved hW0.alike (hN.kept hS.2.1)
  have h : ∀ w ∈ xAt own ic cls Yn ix rx rn, w.before args s' = true := vx_own hat' (vx_isRefq hU'.1) (vx_isRefq hN'.1) hU'.2.word hN'.2.word
  have hown' : s'.vm.findClass own = some m.cls := by rw [hvm]; exact hown
  have hins : (Cond.instantiable cls 6).before args s' = true := h _ (by simp [xAt])
  obtain ⟨vm₁, cX, kX, hfX, hkX, -, -, X₁, st1⟩ := Y.newCold hexec (own := own) (C := cls) (index := ik) (n := 6) hown' hk' hins hini'
    (g := F0 m pc ls rest) rfl (by rw [hb]; exact d0) (Nat.le_refl _) (Nat.le_refl _)
  generalize hT1 : (T.setVm vm₁).pushCell { cls := cX, slots := kX.instanceTypes.map defaultValue, vm := .none } = T1 at X₁ st1
  have hcat : (Value.ref T.heap.size).category = 1 := rfl
  have hcellA : T1.heap[T.heap.size]? = some (freshCell cX kX) := by rw [← hT1]; exact State.heap_pushCell_size _ _
  have d3' : decode c.code (pc + 3) = .ok (.dup, 1) := by rw [hb]; exact d3
  have d4' : decode c.code (pc + 4) = .ok (.ldc is, 2) := by rw [hb]; exact d4
  have hstr' : vk_R own is text sa s' := vk_R.warm hW0 hstr
  obtain ⟨V9, ce, L9, X₂, hL9, hlt9, hcls9, hvm9, st2⟩ := vx_ctorMadeX X₁ hexec htr x0 x1 x2 x5 (own := own) (cls := cls) (ic := ic) hown' hcls hY hnames h (fun x hx => nomatch hx) hfX hkX hcellA (by rw [hhp, hT]; exact Nat.le_refl _) (msg := .ref sa) rfl
    (g := { method := m, pc := pc + 6, locals := ls, stack := .ref sa :: .ref T.heap.size :: .ref T.heap.size :: rest, locked := none }) rfl hsize (rest := rest) rfl
    (by rw [hb]; exact d6) hRframes (by simp only [List.map_cons, List.sum_cons, hcat]; omega)
  obtain ⟨hwalk9, hrun9, hend9, hW9, hsame9⟩ := X₂.athrowLeaves hexec (g := { method := m, pc := pc + 6 + 3, locals := ls, stack := .ref T.heap.size :: rest, locked := none }) rfl rfl rfl hout (a := T.heap.size) (rest := rest) rfl (by rw [hb]; exact d9)
  obtain ⟨U, hsteps, hrun, hend, hW, hsame, hce⟩ : ∃ U : State, Steps p.tables e below (T1.setTop { method := m, pc := pc + 6, locals := ls, stack := .ref sa :: .ref T.heap.size :: .ref T.heap.size :: rest, locked := none }) U ∧ U.status = .running ∧ Ended U below (.threw T.heap.size) ∧ s'.WarmedH U.vm ∧ s'.sameButNew ({ U with vm := s'.vm } : State) [] (0 + 1) (0 + 6) ∧ U.heap[T.heap.size]? = some ce :=
    ⟨_, st2 _ hwalk9, hrun9, hend9, hW9, hsame9.weaken (fun y hy hlt' => by
      rw [List.nil_append] at hy
      rw [hL9 y hy, hhp, hT] at hlt'
      exact absurd hlt' (Nat.lt_irrefl _)) (Nat.le_refl _) (Nat.le_refl _), heapAt_setCell_self (s := V9) ce hlt9⟩
  obtain ⟨f1, f2⟩ := vx_frame hsame
  rw [hhp] at f1 f2
  have hWs : s.WarmedH U.vm := State.WarmedH.trans hW0 hW
  have hcl : s.vm.findClass cls = some ce.cls := by
    rw [hvm] at hfX
    rw [hcls9]
    exact hfX
  have hall : s.sameButNew ({ U with vm := s.vm } : State) locs mc ms := by
    subst hA
    obtain ⟨e1, e2⟩ := hsame
    rw [State.setFrames_setFrames] at e1
    have h2 : (T.setVm s.vm).sameButNew ({ U with vm := s.vm } : State) [] (0 + 1) (0 + 6) := ⟨e1, e2⟩
    have h3 := X.same.trans h2
    rw [List.append_nil] at h3
    exact h3.mono hc hs
  refine ⟨U, ?_, .threw T.heap.size, hrun, hend, Or.inr ⟨T.heap.size, rfl, cls, ce, locs, hx U hWs.alike f1 (fun q hq => f2 q hq (fun z hz => nomatch hz)), hce, hvm9, hcl, hWs, hall, hf⟩⟩
  refine st1 _ ?_
  show Steps p.tables e below (T1.setTop { method := m, pc := pc + 3, locals := ls, stack := .ref T.heap.size :: rest, locked := none }) _
  jvm_step X₁.here [X₁.here.top, hexec, d3', Value.category]
  exact X₁.ldcString hexec (own := own) (text := text) (index := is) (a := sa) hown' hstr'.1 hstr'.2
    (g := { method := m, pc := pc + 4, locals := ls, stack := .ref T.heap.size :: .ref T.heap.size :: rest, locked := none }) rfl d4' _ hsteps
end XTH
theorem MS.zq {E : Nat → Nat → Nat} {rs : List (Nat × Nat)} {s : State} {H : Heap} {locs : List Loc} (h : MS E rs s H locs) {C n d : String} (z : vx_Zq C n d (Az E) s H) : vx_Zq C n d (Az E) s s.heap :=
  z.kept (fun a _ hz => (h.1.2.1 a (Nat.lt_of_lt_of_le (Nat.not_le.mp hz) h.2.2.1) (fun q => hz (h.z q))).symm)
theorem MS.sA {E : Nat → Nat → Nat} {rs : List (Nat × Nat)} {s : State} {H : Heap} {locs : List Loc} (h : MS E rs s H locs) : va_S (Az E) s.heap H locs :=
  ⟨h.1.1, fun q h1 h2 => h.1.2.1 q h1 (fun z => h2 (h.z z)), fun z hz => h.z (h.1.2.2 z hz)⟩
/-- what a throw leaves behind -/
def XCf (ex : String) (rs : List (Nat × Nat)) (Po : Heap → Prop) : String → State → State → Prop := fun Ex st t => Ex = ex ∧ Po t.heap ∧ Fm rs st.heap t.heap
def QF : Array Value → State → Outcome → State → Prop := fun _ _ _ _ => False
/-- it throws ex -/
def Tx (l : Launch) (y : MethodName) (cy : ByteArray) (my : Nat) (ry : Option FieldType) (Lv mc ms : Nat) (E : Nat → Nat → Nat) (rs : List (Nat × Nat)) (av : List Value) (Pr : Heap → Prop) (ex : String) (Po : Heap → Prop) : Prop :=
  ∀ sz, vx_Met l y (.code y cy my ry :: WA) (rmL Lv mc ms) (Pm E rs sz av Pr) QF (XCf ex rs Po) mc ms (Fr rs sz)
abbrev TQ (below : List Frame) (ex : String) (rs : List (Nat × Nat)) (Po : Heap → Prop) (args : Array Value) (s : State) (mc ms : Nat) : State → Prop := vx_MQ below QF (XCf ex rs Po) args s mc ms (Fr rs s.heap.size)
theorem Tx.start {l : Launch} {y : MethodName} {cy : ByteArray} {my : Nat} {ry : Option FieldType} {Lv mc ms : Nat} {E : Nat → Nat → Nat} {rs : List (Nat × Nat)} {av : List Value} {Pr : Heap → Prop} {ex : String} {Po : Heap → Prop} {own : String} (ho : y.cls = own) (hy : plainName own = true) (hn : (lg_sl av).length ≤ my)
    (body : ∀ (p : Program) (e : Env) (s : State) (m : MethodId) (below : List Frame) (meth : Method) (c : Code) (args : Array Value) (Q : State → Prop), Q = TQ below ex rs Po args s mc ms → CF p m c cy my s args own → (∀ x ∈ c.exceptionTable.toList, False) → meth.locks = false → MS E rs s s.heap [] → Pr s.heap →
      V p l e (rmL Lv mc ms) s m args below meth c Q my s.heap [] 0 0 0 (lv_args 0 av) []) : Tx l y cy my ry Lv mc ms E rs av Pr ex Po := by
  intro sz
  refine vx_ofW (cc := cy) (maxL := my) (ret := ry) (ws' := WA) (by rw [ho]; exact hy) rfl ?_
  intro p e s m args below meth c s₁ B hml htab hv
  obtain ⟨rfl, hC, hsz, hz, hP⟩ := hv
  subst hsz
  have hts := atoms_spec (ws := .code y cy my ry :: WA) B.pre
  have K := body p e s m below meth c av.toArray _ rfl ⟨B.exec, B.bytes, hml, by rw [← ho]; exact findClass_of_methodNamed B.named, fun w h => hts w (List.mem_cons_of_mem _ h)⟩ htab B.notSynchronized (MS.rf hC hz) hP
  rw [lg_entry_eq]
  exact K _ (lv_entry av hn)
section TXR
variable {p : Program} {l : Launch} {e : Env} {R : Room} {s : State} {m : MethodId} {args : Array Value} {below : List Frame} {meth : Method} {c : Code} {Q : State → Prop} {nL : Nat} {H : Heap} {locs : List Loc} {k n : Nat} {pc : Nat} {L L' : List (Nat × Value)} {st : List Value} {cc : ByteArray} {own : String} {E : Nat → Nat → Nat} {rs rs' : List (Nat × Nat)} {mc ms : Nat} {ex : String} {Po Po' : Heap → Prop}
/-- what a class of exceptions wants of the tables -/
def XT (own : String) (ic : Nat) (X Yn : String) (ix : Nat) (rx : ByteArray) (rn : List String) : Prop :=
  (decode rx 0 = .ok (.aload_n 0, 1) ∧ decode rx 1 = .ok (.aload_n 1, 1) ∧ decode rx 2 = .ok (.invokespecial ix, 3) ∧ decode rx 5 = .ok (.return_, 1)) ∧ (Bundle.fit X = true ∧ Bundle.fit Yn = true ∧ (∀ n ∈ rn, Bundle.fit n = true)) ∧
  Cond.initialized X ∈ WA ∧ ∀ w ∈ (xAt own ic X Yn ix rx rn).filter vx_no, vx_ot w = true ∧ (w ∈ WA ∨ w ∈ WN ∨ w ∈ WD)
theorem v_throw {cls Yn text : String} {rn : List String} {ik is ic ix : Nat} {rx : ByteArray} (X : CF p m c cc nL s args own) (hl : l.stackTraces = false) (tb : ∀ x ∈ c.exceptionTable.toList, False) (hlk : meth.locks = false) (hM : MS E rs s H locs) (hx : XT own ic cls Yn ix rx rn) (hk : Cond.classLink own ik cls ∈ WA) (sr : Nat) (hsr : SR[sr]? = some (own, is, text))
    (d0 : decode cc pc = .ok (.new ik, 3)) (d3 : decode cc (pc + 3) = .ok (.dup, 1)) (d4 : decode cc (pc + 4) = .ok (.ldc is, 2)) (d6 : decode cc (pc + 6) = .ok (.invokespecial ic, 3)) (d9 : decode cc (pc + 9) = .ok (.athrow, 1))
    (hR : (Nat.ble (rn.length + 5) R.frames && Nat.ble (8 + (13 * (rn.length + 2) + 43)) R.locals && Nat.ble (k + 1) R.cells && Nat.ble (n + 6) R.slots && Nat.ble (st.map fun v => v.category).sum 8 && Nat.ble (k + 1) mc && Nat.ble (n + 6) ms) = true) (hpo : ∀ H1, Fm [] H H1 → Po H1) : V p l e R s m args below meth c (TQ below cls rs Po args s mc ms) nL H locs k n pc L st := by
  simp only [Bool.and_eq_true] at hR
  have r1 := Nat.le_of_ble_eq_true hR.1.1.1.1.1.1
  have r2 := Nat.le_of_ble_eq_true hR.1.1.1.1.1.2
  have r3 := Nat.le_of_ble_eq_true hR.1.1.1.1.2
  have r4 := Nat.le_of_ble_eq_true hR.1.1.1.2
  have r5 := Nat.le_of_ble_eq_true hR.1.1.2
  have r6 := Nat.le_of_ble_eq_true hR.1.2
  have r7 := Nat.le_of_ble_eq_true hR.2
  obtain ⟨⟨x0, x1, x2, x5⟩, ⟨f1, f2, f3⟩, hini, hw⟩ := hx
  have hwd : ∀ w ∈ (xAt own ic cls Yn ix rx rn).filter vx_no, w.before args s = true := fun w h => (hw w h).2.elim (fun z => X.2.2.2.2 w z) (fun z => z.elim (fun z => hM.C.nest z) (fun z => va_Nw.use (isDecl_tabs w (List.mem_filter.mp z).2) (hM.C.2.2.2.2.2.2.2.1 w z)))
  have hgood : ∀ w ∈ Cond.classLink own ik cls :: Cond.initialized cls :: (xAt own ic cls Yn ix rx rn).filter vx_no, vx_ot w = true := fun w h => by
    rcases List.mem_cons.mp h with q | h
    · rw [q]; rfl
    · rcases List.mem_cons.mp h with q | h
      · rw [q]; rfl
      · exact (hw w h).1
  intro ls hls
  refine vx_throwX (text := text) X.1 X.2.1 hl x0 x1 x2 x5 X.2.2.2.1 f1 f2 f3 (X.2.2.2.2 _ hk) (X.2.2.2.2 _ hini) (hM.C.2.2.2.2.1.2 sr _ hsr) hwd hgood (hM.zq hM.C.2.2.1.2.1) (hM.zq hM.C.2.2.1.2.2) hM.sA (by rw [X.2.2.1]; exact hls.1) d0 d3 d4 d6 d9 (fun x hx => (tb x hx).elim) (by omega) (by omega) r3 r4 hlk (fun t _ h1 h2 => ?_) hM.1.2.2 r6 r7
  have hF : Fm [] H t.heap := ⟨h1, fun q a _ => h2 q a⟩
  exact ⟨rfl, hpo _ hF, hM.F.trans (hF.wide (fun _ z => z.elim))⟩
theorem tx_call {ls : Array Slot} {st0 rest : List Value} {a : Array Value} {mc' ms' : Nat} (hr : vx_Run p l e R s m args below meth c H locs k n mc' ms' (F0 m pc ls st0) rest (QF a) (XCf ex rs' Po') (Fr rs' H.size)) (hM : MS E rs s H locs) (hs : ∀ q, Fs rs' q → Fr rs s.heap.size q)
    (kx : ∀ (q9 : Addr) (H1 : Heap) (locs1 : List Loc) (ce : Cell), MS E rs s H1 locs1 → Fm rs' H H1 → Po' H1 → H1[q9]? = some ce → ce.vm = .none → s.vm.findClass ex = some ce.cls → vx_W p l e R s m args below meth c H1 locs1 (k + mc') (n + ms') Q (F0 m pc ls rest) q9) : W p l e R s m args below meth c H locs k n Q (F0 m pc ls st0) := by
  intro T hT X
  rcases hr T hT X with ⟨v, st₀, t, T', L, h0, X', hL, e1, e2, hF, st⟩ | ⟨q, st₀, t, T', L, E', ce, h0, X', hL, e1, e2, ⟨hEx, hp, hF⟩, hce, hcv, hcl, st⟩
  · exact False.elim hF
  · subst hEx
    rw [h0, ← e1] at hF
    rw [← e1] at hp hce
    obtain ⟨t2, a1, b1⟩ := kx q T'.heap (locs ++ L) ce (hM.mut hF hs hL) hF hp hce hcv hcl T' rfl X'
    exact ⟨t2, st.trans a1, b1⟩
variable {y : MethodName} {cy : ByteArray} {my N Lc idx mc' ms' : Nat} {ry : Option FieldType} {wc : va_W} {b : Nat} {As st0 : List Value} {Pr : Heap → Prop}
/-- a callee throws, and nobody here catches -/
theorem tx_out {ls : Array Slot} {q9 : Addr} {H1 : Heap} {locs1 : List Loc} {ce : Cell} {k1 n1 : Nat} (tb : ∀ x ∈ c.exceptionTable.toList, False) (hlk : meth.locks = false) (hM1 : MS E rs s H1 locs1) (hce : H1[q9]? = some ce) (hcv : ce.vm = .none) (hcl : s.vm.findClass ex = some ce.cls) (hpo : Po H1) (hk : k1 ≤ mc) (hn : n1 ≤ ms) : vx_W p l e R s m args below meth c H1 locs1 k1 n1 (TQ below ex rs Po args s mc ms) (F0 m pc ls st) q9 :=
  vx_out (fun x hx => (tb x hx).elim) hlk hce hcv hcl (fun t ht _ => ⟨rfl, by rw [ht]; exact hpo, by rw [ht]; exact hM1.F⟩) hM1.1.2.2 hk hn
theorem v_txV (X : CF p m c cc nL s args own) (tb : ∀ x ∈ c.exceptionTable.toList, False) (hlk : meth.locks = false) (hM : MS E rs s H locs) (hP : PW E wc H) (hc1 : Tx l y cy my ry Lc mc' ms' E rs' (.ref b :: As) Pr ex Po') (hk : KV y cy my ry N) (hi : KI y) (hl : Cond.methodLink own idx y ∈ WA) {q0 ci Nf : Nat} {T : u_T} {fs : List Value} (he : wc[q0]? = some (b, .inr (ci, fs))) (hc : vwCl[ci]? = some (y.cls, T, Nf)) (hst : st0 = As.reverse ++ .ref b :: st) (hn : As.length = N)
    (hR : (Nat.ble (Lc + 1) R.frames && Nat.ble (8 + (my + 11) + 60 * Lc) R.locals && Nat.ble (k + mc') R.cells && Nat.ble (n + ms') R.slots && Nat.ble (st.map fun v => v.category).sum 8) = true) (hR2 : (Nat.ble (k + mc') mc && Nat.ble (n + ms') ms) = true) (hdg : decode cc pc = .ok (.invokevirtual idx, 3)) (hs : ∀ q, Fs rs' q → Fr rs s.heap.size q) (hpr : Pr H) (hpo : ∀ H1, Fm rs' H H1 → Po' H1 → Po H1) : V p l e R s m args below meth c (TQ below ex rs Po args s mc ms) nL H locs k n pc L st0 := by
  simp only [Bool.and_eq_true] at hR2
  obtain ⟨r1, r2, r3⟩ := room_okM hR
  intro ls hls
  have cw : CallW R s args own y.cls idx y cy my ry (.code y cy my ry :: WA) (rmL Lc mc' ms') mc' ms' N := ⟨kv_callB X hk hl rfl rfl r1, X.2.2.2.2 _ hi.1, X.2.2.2.2 _ hi.2⟩
  exact tx_call (vx_runV (As := As) (rest := st) X (hc1 H.size) cw ⟨Pm_blind, va_recv (q := (y.cls, T, Nf)) hM.C.K hP hc he, fun U hU hW => ⟨rfl, by rw [hU]; exact hM.C.warm hW, by rw [hU], fun q z => hM.z (hs q z), by rw [hU]; exact hpr⟩⟩ rfl hn hls.1 hst (lv_room r3) hdg r2) hM hs (fun q9 H1 locs1 ce a1 a2 a3 a4 a5 a6 => tx_out tb hlk a1 a4 a5 a6 (hpo H1 a2 a3) (Nat.le_of_ble_eq_true hR2.1) (Nat.le_of_ble_eq_true hR2.2))
theorem v_txS (X : CF p m c cc nL s args own) (tb : ∀ x ∈ c.exceptionTable.toList, False) (hlk : meth.locks = false) (hM : MS E rs s H locs) (hc1 : Tx l y cy my ry Lc mc' ms' E rs' As Pr ex Po') (hk : KV y cy my ry N) (hi : Cond.static y ∈ WA) (hl : Cond.methodLink own idx y ∈ WA) (hst : st0 = As.reverse ++ st) (hn : As.length = N)
    (hR : (Nat.ble (Lc + 1) R.frames && Nat.ble (8 + (my + 11) + 60 * Lc) R.locals && Nat.ble (k + mc') R.cells && Nat.ble (n + ms') R.slots && Nat.ble (st.map fun v => v.category).sum 8) = true) (hR2 : (Nat.ble (k + mc') mc && Nat.ble (n + ms') ms) = true) (hdg : decode cc pc = .ok (.invokestatic idx, 3)) (hs : ∀ q, Fs rs' q → Fr rs s.heap.size q) (hpr : Pr H) (hpo : ∀ H1, Fm rs' H H1 → Po' H1 → Po H1) : V p l e R s m args below meth c (TQ below ex rs Po args s mc ms) nL H locs k n pc L st0 := by
  simp only [Bool.and_eq_true] at hR2
  obtain ⟨r1, r2, r3⟩ := room_okM hR
  intro ls hls
  exact tx_call (vx_runS (As := As) (rest := st) X (hc1 H.size) ⟨kv_callB X hk hl rfl rfl r1, X.2.2.2.2 _ hi⟩ ⟨Pm_blind, fun U hU hW => ⟨rfl, by rw [hU]; exact hM.C.warm hW, by rw [hU], fun q z => hM.z (hs q z), by rw [hU]; exact hpr⟩⟩ rfl hn hls.1 hst (lv_room r3) hdg r2) hM hs (fun q9 H1 locs1 ce a1 a2 a3 a4 a5 a6 => tx_out tb hlk a1 a4 a5 a6 (hpo H1 a2 a3) (Nat.le_of_ble_eq_true hR2.1) (Nat.le_of_ble_eq_true hR2.2))
end TXR
