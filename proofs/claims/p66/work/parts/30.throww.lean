section XTW
variable {p : Program} {l : Launch} {e : Env} {R : Room} {s : State} {m : MethodId} {args : Array Value} {below : List Frame} {meth : Method} {c : Code} {H : Heap} {locs : List Loc} {cells slots : Nat} {free : Addr → Prop} {ls : Array Slot} {rest : List Value} {Qc : Array Value → State → Outcome → State → Prop} {XC : String → State → State → Prop}
theorem vx_throwXW {cc : ByteArray} {pc : Nat} (hexec : p.tables.exec = Jvm.exec) (hb : c.code = cc) (hl : l.stackTraces = false) {own cls Yn text : String} {rn : List String} {ik is ic ix mc ms sa : Nat} {rx : ByteArray} (x0 : decode rx 0 = .ok (.aload_n 0, 1)) (x1 : decode rx 1 = .ok (.aload_n 1, 1)) (x2 : decode rx 2 = .ok (.invokespecial ix, 3)) (x5 : decode rx 5 = .ok (.return_, 1)) {A : Nat → Prop}
    (hown : s.vm.findClass own = some m.cls) (hcls : Bundle.fit cls = true) (hY : Bundle.fit Yn = true) (hnames : ∀ n ∈ rn, Bundle.fit n = true)
    (hk : (Cond.classLink own ik cls).before args s = true) (hini : (Cond.initialized cls).before args s = true) (hstr : vk_R own is text sa s) (hat : ∀ w ∈ (xAt own ic cls Yn ix rx rn).filter vx_no, w.before args s = true)
    (hgood : ∀ w ∈ Cond.classLink own ik cls :: Cond.initialized cls :: (xAt own ic cls Yn ix rx rn).filter vx_no, vx_ot w = true)
    (hU : vx_Zq Bundle.tN "UNASSIGNED_STACK" Bundle.steD A s s.heap) (hN : vx_Zq Bundle.tN "SUPPRESSED_SENTINEL" Bundle.listD A s s.heap) (hS : va_S A s.heap H locs) (hsize : ls.size = c.maxLocals)
    (d0 : decode cc pc = .ok (.new ik, 3)) (d3 : decode cc (pc + 3) = .ok (.dup, 1)) (d4 : decode cc (pc + 4) = .ok (.ldc_w is, 3)) (d6 : decode cc (pc + 7) = .ok (.invokespecial ic, 3)) (d9 : decode cc (pc + 10) = .ok (.athrow, 1))
    (hout : ∀ x ∈ c.exceptionTable.toList, covers x (pc + 10) = false)
    (hRframes : rn.length + 4 < R.frames) (hRlocals : (rest.map fun v => v.category).sum + (13 * (rn.length + 2) + 43) ≤ R.locals) (hRcells : cells + 1 ≤ R.cells) (hRslots : slots + 6 ≤ R.slots) (hlocks : meth.locks = false)
    (hx : ∀ t : State, s.vm.Alike t.vm → H.size ≤ t.heap.size → (∀ q : Nat, q < H.size → t.heap[q]? = H[q]?) → XC cls s t)
    (hf : ∀ z ∈ locs, free z.base) (hc : cells + 1 ≤ mc) (hs : slots + 6 ≤ ms) :
    W p l e R s m args below meth c H locs cells slots (vx_MQ below Qc XC args s mc ms free) (F0 m pc ls rest) := by
  intro T hT X
  have htr : e.platform.stackTraces = false := (show e.platform.stackTraces = l.stackTraces by rw [X.admits.platform]).trans hl
  have Y := vx_rebase X (R' := { frames := R.frames, locals := R.locals, cells := 1, slots := 6 }) (Nat.le_refl _) (Nat.le_refl _) hRcells hRslots
  obtain ⟨s', hA⟩ : ∃ z, z = (T.setVm s.vm).setFrames (.invoking m args :: below) := ⟨_, rfl⟩
  rw [← hA] at Y
  have hvm : s'.vm = s.vm := by rw [hA]; rfl
  have hhp : s'.heap = H := by rw [hA]; exact hT
  have hW0 : s.WarmedH s'.vm := by rw [hvm]; exact State.WarmedH.refl s
  have hat' : ∀ w ∈ (xAt own ic cls Yn ix rx rn).filter vx_no, w.before args s' = true := fun w hw => vx_ot_at hW0 hvm.symm (hgood w (List.mem_cons_of_mem _ (List.mem_cons_of_mem _ hw))) (hat w hw)
  have hk' : (Cond.classLink own ik cls).before args s' = true := vx_ot_at hW0 hvm.symm (hgood _ List.mem_cons_self) hk
  have hini' : (Cond.initialized cls).before args s' = true := vx_ot_at hW0 hvm.symm (hgood _ (List.mem_cons_of_mem _ List.mem_cons_self)) hini
  have hU' : vx_Zq Bundle.tN "UNASSIGNED_STACK" Bundle.steD A s' s'.heap := by rw [hhp]; exact vx_Zq.moved hW0.alike (hU.kept hS.2.1)
  have hN' : vx_Zq Bundle.tN "SUPPRESSED_SENTINEL" Bundle.listD A s' s'.heap := by rw [hhp]; exact vx_Zq.moved hW0.alike (hN.kept hS.2.1)
  have h : ∀ w ∈ xAt own ic cls Yn ix rx rn, w.before args s' = true := vx_own hat' (vx_isRefq hU'.1) (vx_isRefq hN'.1) hU'.2.word hN'.2.word
  have hown' : s'.vm.findClass own = some m.cls := by rw [hvm]; exact hown
  have hins : (Cond.instantiable cls 6).before args s' = true := h _ (by simp [xAt])
  obtain ⟨vm₁, cX, kX, hfX, hkX, -, -, X₁, st1⟩ := Y.newCold hexec (own := own) (C := cls) (index := ik) (n := 6) hown' hk' hins hini'
    (g := F0 m pc ls rest) rfl (by rw [hb]; exact d0) (Nat.le_refl _) (Nat.le_refl _)
  generalize hT1 : (T.setVm vm₁).pushCell { cls := cX, slots := kX.instanceTypes.map defaultValue, vm := .none } = T1 at X₁ st1
  have hcat : (Value.ref T.heap.size).category = 1 := rfl
  have hcellA : T1.heap[T.heap.size]? = some (freshCell cX kX) := by rw [← hT1]; exact State.heap_pushCell_size _ _
  have d3' : decode c.code (pc + 3) = .ok (.dup, 1) := by rw [hb]; exact d3
  have d4' : decode c.code (pc + 4) = .ok (.ldc_w is, 3) := by rw [hb]; exact d4
  have hstr' : vk_R own is text sa s' := vk_R.warm hW0 hstr
  obtain ⟨V9, ce, L9, X₂, hL9, hlt9, hcls9, hvm9, st2⟩ := vx_ctorMadeX X₁ hexec htr x0 x1 x2 x5 (own := own) (cls := cls) (ic := ic) hown' hcls hY hnames h (fun x hx => nomatch hx) hfX hkX hcellA (by rw [hhp, hT]; exact Nat.le_refl _) (msg := .ref sa) rfl
    (g := { method := m, pc := pc + 7, locals := ls, stack := .ref sa :: .ref T.heap.size :: .ref T.heap.size :: rest, locked := none }) rfl hsize (rest := rest) rfl
    (by rw [hb]; exact d6) hRframes (by simp only [List.map_cons, List.sum_cons, hcat]; omega)
  obtain ⟨hwalk9, hrun9, hend9, hW9, hsame9⟩ := X₂.athrowLeaves hexec (g := { method := m, pc := pc + 7 + 3, locals := ls, stack := .ref T.heap.size :: rest, locked := none }) rfl rfl rfl hout (a := T.heap.size) (rest := rest) rfl (by rw [hb]; exact d9)
  obtain ⟨U, hsteps, hrun, hend, hW, hsame, hce⟩ : ∃ U : State, Steps p.tables e below (T1.setTop { method := m, pc := pc + 7, locals := ls, stack := .ref sa :: .ref T.heap.size :: .ref T.heap.size :: rest, locked := none }) U ∧ U.status = .running ∧ Ended U below (.threw T.heap.size) ∧ s'.WarmedH U.vm ∧ s'.sameButNew ({ U with vm := s'.vm } : State) [] (0 + 1) (0 + 6) ∧ U.heap[T.heap.size]? = some ce :=
    ⟨_, st2 _ hwalk9, hrun9, hend9, hW9, hsame9.weaken (fun y hy hlt' => by
      rw [List.nil_append] at hy
      rw [hL9 y hy, hhp, hT] at hlt'
      exact absurd hlt' (Nat.lt_irrefl _)) (Nat.le_refl _) (Nat.le_refl _), heapAt_setCell_self (s := V9) ce hlt9⟩
  obtain ⟨f1, f2⟩ := vx_frame hsame
  rw [hhp] at f1 f2
  have hWs : s.WarmedH U.vm := State.WarmedH.trans hW0 hW
  have hcl : s.vm.findClass cls = some ce.cls := by
    rw [hvm] at hfX
    rw [hcls9]
    exact hfX
  have hall : s.sameButNew ({ U with vm := s.vm } : State) locs mc ms := by
    subst hA
    obtain ⟨e1, e2⟩ := hsame
    rw [State.setFrames_setFrames] at e1
    have h2 : (T.setVm s.vm).sameButNew ({ U with vm := s.vm } : State) [] (0 + 1) (0 + 6) := ⟨e1, e2⟩
    have h3 := X.same.trans h2
    rw [List.append_nil] at h3
    exact h3.mono hc hs
  refine ⟨U, ?_, .threw T.heap.size, hrun, hend, Or.inr ⟨T.heap.size, rfl, cls, ce, locs, hx U hWs.alike f1 (fun q hq => f2 q hq (fun z hz => nomatch hz)), hce, hvm9, hcl, hWs, hall, hf⟩⟩
  refine st1 _ ?_
  show Steps p.tables e below (T1.setTop { method := m, pc := pc + 3, locals := ls, stack := .ref T.heap.size :: rest, locked := none }) _
  jvm_step X₁.here [X₁.here.top, hexec, d3', Value.category]
  exact X₁.ldcStringW hexec (own := own) (text := text) (index := is) (a := sa) hown' hstr'.1 hstr'.2
    (g := { method := m, pc := pc + 4, locals := ls, stack := .ref T.heap.size :: .ref T.heap.size :: rest, locked := none }) rfl d4' _ hsteps
end XTW
section XTV
variable {p : Program} {l : Launch} {e : Env} {R : Room} {s : State} {m : MethodId} {args : Array Value} {below : List Frame} {meth : Method} {c : Code} {Q : State → Prop} {nL : Nat} {H : Heap} {locs : List Loc} {k n : Nat} {pc : Nat} {L L' : List (Nat × Value)} {st : List Value} {cc : ByteArray} {own : String} {E : Nat → Nat → Nat} {rs rs' : List (Nat × Nat)} {mc ms : Nat} {ex : String} {Po Po' : Heap → Prop}
theorem v_throwW {cls Yn text : String} {rn : List String} {ik is ic ix : Nat} {rx : ByteArray} (X : CF p m c cc nL s args own) (hl : l.stackTraces = false) (tb : ∀ x ∈ c.exceptionTable.toList, False) (hlk : meth.locks = false) (hM : MS E rs s H locs) (hx : XT own ic cls Yn ix rx rn) (hk : Cond.classLink own ik cls ∈ WA) (sr : Nat) (hsr : SR[sr]? = some (own, is, text))
    (d0 : decode cc pc = .ok (.new ik, 3)) (d3 : decode cc (pc + 3) = .ok (.dup, 1)) (d4 : decode cc (pc + 4) = .ok (.ldc_w is, 3)) (d6 : decode cc (pc + 7) = .ok (.invokespecial ic, 3)) (d9 : decode cc (pc + 10) = .ok (.athrow, 1))
    (hR : (Nat.ble (rn.length + 5) R.frames && Nat.ble (8 + (13 * (rn.length + 2) + 43)) R.locals && Nat.ble (k + 1) R.cells && Nat.ble (n + 6) R.slots && Nat.ble (st.map fun v => v.category).sum 8 && Nat.ble (k + 1) mc && Nat.ble (n + 6) ms) = true) (hpo : ∀ H1, Fm [] H H1 → Po H1) : V p l e R s m args below meth c (TQ below cls rs Po args s mc ms) nL H locs k n pc L st := by
  simp only [Bool.and_eq_true] at hR
  have r1 := Nat.le_of_ble_eq_true hR.1.1.1.1.1.1
  have r2 := Nat.le_of_ble_eq_true hR.1.1.1.1.1.2
  have r3 := Nat.le_of_ble_eq_true hR.1.1.1.1.2
  have r4 := Nat.le_of_ble_eq_true hR.1.1.1.2
  have r5 := Nat.le_of_ble_eq_true hR.1.1.2
  have r6 := Nat.le_of_ble_eq_true hR.1.2
  have r7 := Nat.le_of_ble_eq_true hR.2
  obtain ⟨⟨x0, x1, x2, x5⟩, ⟨f1, f2, f3⟩, hini, hw⟩ := hx
  have hwd : ∀ w ∈ (xAt own ic cls Yn ix rx rn).filter vx_no, w.before args s = true := fun w h => (hw w h).2.elim (fun z => X.2.2.2.2 w z) (fun z => z.elim (fun z => hM.C.nest z) (fun z => va_Nw.use (isDecl_tabs w (List.mem_filter.mp z).2) (hM.C.2.2.2.2.2.2.2.1 w z)))
  have hgood : ∀ w ∈ Cond.classLink own ik cls :: Cond.initialized cls :: (xAt own ic cls Yn ix rx rn).filter vx_no, vx_ot w = true := fun w h => by
    rcases List.mem_cons.mp h with q | h
    · rw [q]; rfl
    · rcases List.mem_cons.mp h with q | h
      · rw [q]; rfl
      · exact (hw w h).1
  intro ls hls
  refine vx_throwXW (text := text) X.1 X.2.1 hl x0 x1 x2 x5 X.2.2.2.1 f1 f2 f3 (X.2.2.2.2 _ hk) (X.2.2.2.2 _ hini) (hM.C.2.2.2.2.1.2 sr _ hsr) hwd hgood (hM.zq hM.C.2.2.1.2.1) (hM.zq hM.C.2.2.1.2.2) hM.sA (by rw [X.2.2.1]; exact hls.1) d0 d3 d4 d6 d9 (fun x hx => (tb x hx).elim) (by omega) (by omega) r3 r4 hlk (fun t _ h1 h2 => ?_) hM.1.2.2 r6 r7
  have hF : Fm [] H t.heap := ⟨h1, fun q a _ => h2 q a⟩
  exact ⟨rfl, hpo _ hF, hM.F.trans (hF.wide (fun _ z => z.elim))⟩
end XTV
