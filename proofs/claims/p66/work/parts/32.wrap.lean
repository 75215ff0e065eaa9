/-! the law's own methods: they call, catch, and keep the answer in a row of one -/
def zL (x : Int) : Int64 := (zI x).toInt64
/-- a method with a table of its own: it returns -/
def MuW (l : Launch) (y : MethodName) (cy : ByteArray) (my : Nat) (ry : Option FieldType) (hh : List (Nat × Nat × Nat × Nat)) (Lv mc ms : Nat) (E : Nat → Nat → Nat) (rs : List (Nat × Nat)) (av : List Value) (Pr : Heap → Prop) (Po : Option Value → Heap → Prop) : Prop :=
  ∀ sz, Met l y (.codeWith y cy my ry hh :: WA) (rmL Lv mc ms) (Pm E rs sz av Pr) (Qm rs Po) mc ms (Fr rs sz)
theorem MuW.start {l : Launch} {y : MethodName} {cy : ByteArray} {my : Nat} {ry : Option FieldType} {hh : List (Nat × Nat × Nat × Nat)} {Lv mc ms : Nat} {E : Nat → Nat → Nat} {rs : List (Nat × Nat)} {av : List Value} {Pr : Heap → Prop} {Po : Option Value → Heap → Prop} {own : String} (ho : y.cls = own) (hy : plainName own = true) (hn : (lg_sl av).length ≤ my)
    (body : ∀ (p : Program) (e : Env) (s : State) (m : MethodId) (below : List Frame) (meth : Method) (c : Code) (args : Array Value) (Q : State → Prop), Q = MQ below (Qm rs Po) args s mc ms (Fr rs s.heap.size) → CF p m c cy my s args own → meth.sig.returnType = ry → meth.locks = false → c.exceptionTable.toList = tableOf hh → MS E rs s s.heap [] → Pr s.heap →
      V p l e (rmL Lv mc ms) s m args below meth c Q my s.heap [] 0 0 0 (lv_args 0 av) []) : MuW l y cy my ry hh Lv mc ms E rs av Pr Po := by
  intro sz
  refine MetFree.of_bodyS (code := cy) (maxLocals := my) (ret := ry) (by rw [ho]; exact hy) ?_ ?_
  · intro args s m h hn
    obtain ⟨m9, meth, c, hn9, h1, h2, h3, h4, -, h5, h6, -⟩ := Cond.codeWith_spec (atoms_spec (ws := .codeWith y cy my ry hh :: WA) h _ List.mem_cons_self)
    cases hn.symm.trans hn9
    exact ⟨meth, c, h1, h2, h3, h4, h5, h6⟩
  · intro p e s m args below meth c s₁ B hml hv _
    have hh0 : s₁.heap = s.heap := by rw [B.state]; rfl
    obtain ⟨rfl, hC, hsz, hz, hP⟩ := hv
    subst hsz
    have hts := atoms_spec (ws := .codeWith y cy my ry hh :: WA) B.pre
    have K := body p e s m below meth c av.toArray _ rfl ⟨B.exec, B.bytes, hml, by rw [← ho]; exact findClass_of_methodNamed B.named, fun w h => hts w (List.mem_cons_of_mem _ h)⟩ B.returns B.notSynchronized (vx_table (x := y) B (hts _ List.mem_cons_self)) (MS.rf hC hz) hP _ (lv_entry av hn)
    rw [← lg_entry_eq] at K
    obtain ⟨t, a1, o, b1, b2, b3⟩ := K s₁ hh0 (Stand.of_body B)
    exact ⟨t, o, a1, b1, b2, ⟨b3.1, b3.2⟩⟩
theorem split_at {α : Type} : ∀ (l : List α) (j : Nat) (x : α), l[j]? = some x → l = l.take j ++ x :: l.drop (j + 1)
  | [], j, x, h => by simp at h
  | a :: t, 0, x, h => by
    have h : some a = some x := h
    cases h
    rfl
  | a :: t, j + 1, x, h => by
    have h : t[j]? = some x := h
    show a :: t = a :: (t.take j ++ x :: t.drop (j + 1))
    rw [← split_at t j x h]
section WRR
variable {p : Program} {l : Launch} {e : Env} {R : Room} {s : State} {m : MethodId} {args : Array Value} {below : List Frame} {meth : Method} {c : Code} {Q : State → Prop} {nL : Nat} {H : Heap} {locs : List Loc} {k n : Nat} {pc : Nat} {L L' : List (Nat × Value)} {st : List Value} {cc : ByteArray} {own : String} {E : Nat → Nat → Nat} {rs rs' : List (Nat × Nat)} {mc ms : Nat} {ex : String} {Po Po' : Heap → Prop}
theorem v_i2l {x : Int} (X : CF p m c cc nL s args own) (hdg : decode cc pc = .ok (.i2l, 1)) (pc' : Nat) (hp : pc + 1 = pc') (kk : V p l e R s m args below meth c Q nL H locs k n pc' L (.long (zL x) :: st)) : V p l e R s m args below meth c Q nL H locs k n pc L (.int (zI x) :: st) := by
  subst hp
  exact fun ls hl => lv_i2l X.1 X.2.1 hdg rfl (kk ls hl)
theorem v_lconst {j : Fin 2} (z : Int) (X : CF p m c cc nL s args own) (hdg : decode cc pc = .ok (.lconst j, 1)) (hz : Int64.ofNat (j : Nat) = zL z) (pc' : Nat) (hp : pc + 1 = pc') (kk : V p l e R s m args below meth c Q nL H locs k n pc' L (.long (zL z) :: st)) : V p l e R s m args below meth c Q nL H locs k n pc L st := by
  subst hp
  exact fun ls hl => lv_lconst X.1 X.2.1 hdg hz (kk ls hl)
theorem lg_cmp_self (x : Int64) : lg_cmp x x = zI 0 := by
  unfold lg_cmp
  first | (simp; done) | (simp; rfl)
theorem v_lcmp0 {x : Int64} (X : CF p m c cc nL s args own) (hdg : decode cc pc = .ok (.lcmp, 1)) (pc' : Nat) (hp : pc + 1 = pc') (kk : V p l e R s m args below meth c Q nL H locs k n pc' L (.int (zI 0) :: st)) : V p l e R s m args below meth c Q nL H locs k n pc L (.long x :: .long x :: st) := by
  subst hp
  exact fun ls hl => W.lcmp X.1 X.2.1 hdg (by rw [lg_cmp_self]; exact kk ls hl)
variable {y : MethodName} {cy : ByteArray} {my N Lc idx mc' ms' k' n' : Nat} {ry : Option FieldType} {wc : va_W} {b : Nat} {As st0 : List Value} {Pr : Heap → Prop} {hh : List (Nat × Nat × Nat × Nat)}
/-- what the rows ahead of the j-th handler say, and the handler -/
def HT (own ex : String) (s : State) (hh : List (Nat × Nat × Nat × Nat)) (pc j hp : Nat) : Prop :=
  ∃ x : Nat × Nat × Nat × Nat, hh[j]? = some x ∧ x.2.2.1 = hp ∧ covers ⟨x.1, x.2.1, x.2.2.1, x.2.2.2⟩ pc = true ∧ x.2.2.2 ≠ 0 ∧ Cond.classLink own x.2.2.2 ex ∈ WA ∧ Cond.castable ex ex ∈ WN ∧
    ∀ i z, i < j → hh[i]? = some z → z.2.2.2 ≠ 0 ∧ ∃ nm : String, Cond.classLink own z.2.2.2 nm ∈ WA ∧ va_Nc ex nm s
theorem v_txC (X : CF p m c cc nL s args own) (htab : c.exceptionTable.toList = tableOf hh) (hM : MS E rs s H locs) (hP : PW E wc H) (hc1 : Tx l y cy my ry Lc mc' ms' E rs' (.ref b :: As) Pr ex Po') (hk : KV y cy my ry N) (hi : KI y) (hl : Cond.methodLink own idx y ∈ WA) {q0 ci Nf : Nat} {T : u_T} {fs : List Value} (he : wc[q0]? = some (b, .inr (ci, fs))) (hc : vwCl[ci]? = some (y.cls, T, Nf)) (hst : st0 = As.reverse ++ .ref b :: st) (hn : As.length = N)
    (hR : (Nat.ble (Lc + 1) R.frames && Nat.ble (8 + (my + 11) + 60 * Lc) R.locals && Nat.ble (k + mc') R.cells && Nat.ble (n + ms') R.slots && Nat.ble (st.map fun v => v.category).sum 8) = true) (hdg : decode cc pc = .ok (.invokevirtual idx, 3)) (j hpc : Nat) (hht : HT own ex s hh pc j hpc) (hk' : k + mc' = k') (hn' : n + ms' = n') (hs : ∀ q, Fs rs' q → Fr rs s.heap.size q) (hpr : Pr H)
    (kk : ∀ (q9 : Nat) (H1 : Heap) (locs1 : List Loc), MS E rs s H1 locs1 → Fm rs' H H1 → Po' H1 → V p l e R s m args below meth c Q nL H1 locs1 k' n' hpc L [.ref q9]) : V p l e R s m args below meth c Q nL H locs k n pc L st0 := by
  subst hk'; subst hn'
  obtain ⟨r1, r2, r3⟩ := room_okM hR
  obtain ⟨x, hx, hxp, hxc, hx0, hxl, hxn, hpass⟩ := hht
  intro ls hls
  have cw : CallW R s args own y.cls idx y cy my ry (.code y cy my ry :: WA) (rmL Lc mc' ms') mc' ms' N := ⟨kv_callB X hk hl rfl rfl r1, X.2.2.2.2 _ hi.1, X.2.2.2.2 _ hi.2⟩
  refine tx_call (vx_runV (As := As) (rest := st) X (hc1 H.size) cw ⟨Pm_blind, va_recv (q := (y.cls, T, Nf)) hM.C.K hP hc he, fun U hU hW => ⟨rfl, by rw [hU]; exact hM.C.warm hW, by rw [hU], fun q z => hM.z (hs q z), by rw [hU]; exact hpr⟩⟩ rfl hn hls.1 hst (lv_room r3) hdg r2) hM hs (fun q9 H1 locs1 ce a1 a2 a3 a4 a5 a6 => ?_)
  have hjl : j < hh.length := (List.getElem?_eq_some_iff.mp hx).1
  have hsp : c.exceptionTable.toList = tableOf (hh.take j) ++ ⟨x.1, x.2.1, x.2.2.1, x.2.2.2⟩ :: tableOf (hh.drop (j + 1)) := by
    rw [htab]
    unfold tableOf
    have e1 : hh = hh.take j ++ x :: hh.drop (j + 1) := split_at hh j x hx
    conv => lhs; rw [e1]
    rw [List.map_append, List.map_cons]
  subst hxp
  refine vx_catch X.2.2.2.1 (tableOf (hh.take j)) ⟨x.1, x.2.1, x.2.2.1, x.2.2.2⟩ (tableOf (hh.drop (j + 1))) hsp (fun z hz => ?_) hxc hx0 (X.2.2.2.2 _ hxl) (hM.C.nest hxn) a4 a5 a6 (kk q9 H1 locs1 a1 a2 a3 ls hls)
  unfold tableOf at hz
  obtain ⟨w, hw, hwz⟩ := List.mem_map.mp hz
  obtain ⟨i, hi'⟩ := List.mem_iff_getElem?.mp hw
  rw [List.getElem?_take] at hi'
  split at hi'
  · rename_i hij
    obtain ⟨g1, nm, g2, g3⟩ := hpass i w hij hi'
    rw [← hwz]
    exact Or.inr ⟨g1, nm, X.2.2.2.2 _ g2, g3⟩
  · cases hi'
/-- a static method with a table of its own is called -/
theorem v_mwS {Po : Option Value → Heap → Prop} (X : CF p m c cc nL s args own) (hM : MS E rs s H locs) (hc1 : MuW l y cy my ry hh Lc mc' ms' E rs' As Pr Po) (hk : Cond.codeWith y cy my ry hh ∈ WA ∧ Cond.initialized y.cls ∈ WA ∧ (y.cls ≠ "java/lang/invoke/MethodHandle" ∧ y.cls ≠ "java/lang/invoke/VarHandle" ∧ (parseMethodDescriptor y.desc).map (fun d => d.parameters.length) = some N)) (hi : Cond.static y ∈ WA) (hl : Cond.methodLink own idx y ∈ WA) (hst : st0 = As.reverse ++ st) (hn : As.length = N)
    (hR : (Lc + 1 ≤ R.frames ∧ 8 + (my + 11) + 60 * Lc ≤ R.locals) ∧ (k + mc' ≤ R.cells ∧ n + ms' ≤ R.slots) ∧ (st.map fun v => v.category).sum ≤ 8) (hdg : decode cc pc = .ok (.invokestatic idx, 3)) (pc' : Nat) (hp : pc + 3 = pc') (hk' : k + mc' = k') (hn' : n + ms' = n') (hs : ∀ q, Fs rs' q → Fr rs s.heap.size q) (hpr : Pr H)
    (kk : ∀ (v : Option Value) (H1 : Heap) (locs1 : List Loc), MS E rs s H1 locs1 → Fm rs' H H1 → Po v H1 → V p l e R s m args below meth c Q nL H1 locs1 k' n' pc' L (v.toList ++ st)) : V p l e R s m args below meth c Q nL H locs k n pc L st0 := by
  subst hp; subst hk'; subst hn'
  obtain ⟨r1, r2, r3⟩ := hR
  intro ls hls
  have hwa : ∀ w ∈ Cond.codeWith y cy my ry hh :: WA, ∀ (a' : Array Value) (U : State), s.WarmedH U.vm → w.before a' U = true := pay_in X.2.2.2.2 (fun w hw => (List.mem_cons.mp hw).elim (fun e => by rw [e]; exact WA_self _ hk.1) (fun h => WA_self w h))
  have h22 := hk.2.2.2.2
  exact mu_call (vx_runSW (As := As) (rest := st) X (hc1 H.size) ⟨⟨rfl, rfl, r1.1, r1.2, hwa, List.mem_cons_self⟩, X.2.2.2.2 _ hk.1, X.2.2.2.2 _ hk.2.1, ⟨hk.2.2.1, hk.2.2.2.1⟩, fun sig h => by rw [h] at h22; exact (Option.some.inj h22).symm, X.2.2.2.2 _ hl, X.2.2.2.2 _ hi⟩ ⟨Pm_blind, fun U hU hW => ⟨rfl, by rw [hU]; exact hM.C.warm hW, by rw [hU], fun q z => hM.z (hs q z), by rw [hU]; exact hpr⟩⟩ rfl hn hls.1 hst (lv_room r3) hdg r2) hM hs (fun v H1 locs1 a b c => kk v H1 locs1 a b c ls hls)
end WRR
