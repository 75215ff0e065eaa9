/-! methods that read: the heap stays as it is -/
/-- a callee's words -/
def KV (y : MethodName) (cy : ByteArray) (my : Nat) (ry : Option FieldType) (N : Nat) : Prop := Cond.code y cy my ry ∈ WA ∧ Cond.initialized y.cls ∈ WA ∧ (y.cls ≠ "java/lang/invoke/MethodHandle" ∧ y.cls ≠ "java/lang/invoke/VarHandle" ∧ (parseMethodDescriptor y.desc).map (fun d => d.parameters.length) = some N)
def KI (y : MethodName) : Prop := Cond.instanceMethod y ∈ WA ∧ Cond.selects y.cls y y ∈ WA
def Q0 (w : Option Value) : Array Value → State → Outcome → State → Prop := fun _ st o t => o = .returned w ∧ t.heap = st.heap
abbrev P0 (E : Nat → Nat → Nat) (av : List Value) (ws : va_W) : Array Value → State → Prop := va_Pc av (fun U => Cx E U U.heap ∧ PW E ws U.heap)
theorem P0_blind {E : Nat → Nat → Nat} {av : List Value} {ws : va_W} : FrameBlind (P0 E av ws) := fun a U g mk q => ⟨q.1, q.2.1.same (s := U) (U := U.calling g mk a) rfl, q.2.2⟩
/-- it returns w, and changes nothing -/
def Rd (l : Launch) (y : MethodName) (cy : ByteArray) (my : Nat) (ry : Option FieldType) (Lv : Nat) (E : Nat → Nat → Nat) (av : List Value) (ws : va_W) (w : Option Value) : Prop :=
  Met l y (.code y cy my ry :: WA) (rmL Lv 0 0) (P0 E av ws) (Q0 w) 0 0 (fun _ => False)
theorem Rd.start {l : Launch} {y : MethodName} {cy : ByteArray} {my : Nat} {ry : Option FieldType} {Lv : Nat} {E : Nat → Nat → Nat} {av : List Value} {ws : va_W} {w : Option Value} {own : String} (ho : y.cls = own) (hy : plainName own = true) (hn : (lg_sl av).length ≤ my)
    (body : ∀ (p : Program) (e : Env) (s : State) (m : MethodId) (below : List Frame) (meth : Method) (c : Code) (args : Array Value) (Q : State → Prop), Q = MQ below (Q0 w) args s 0 0 (fun _ => False) → CF p m c cy my s args own → meth.sig.returnType = ry → meth.locks = false → Cx E s s.heap → PW E ws s.heap →
      V p l e (rmL Lv 0 0) s m args below meth c Q my s.heap [] 0 0 0 (lv_args 0 av) []) : Rd l y cy my ry Lv E av ws w := by
  refine Met.ofW (cc := cy) (maxL := my) (ret := ry) (by rw [ho]; exact hy) rfl ?_
  intro p e s m args below meth c s₁ B hml hv
  obtain ⟨rfl, hC, hP⟩ := hv
  have hts := atoms_spec (ws := .code y cy my ry :: WA) B.pre
  have K := body p e s m below meth c av.toArray _ rfl ⟨B.exec, B.bytes, hml, by rw [← ho]; exact findClass_of_methodNamed B.named, fun w h => hts w (List.mem_cons_of_mem _ h)⟩ B.returns B.notSynchronized hC hP
  rw [lg_entry_eq]
  exact K _ (lv_entry av hn)
theorem ws0 (E : Nat → Nat → Nat) (H : Heap) : PW E [] H := fun k q h => by simp at h
theorem LC {i : Nat} {v v' : Value} {l l' : List (Nat × Value)} (h : v = v') (t : l = l') : (i, v) :: l = (i, v') :: l' := by rw [h, t]
theorem vz {a b : Int} (h : a = b) : Value.int (zI a) = Value.int (zI b) := by rw [h]
section READ
variable {p : Program} {l : Launch} {e : Env} {R : Room} {s : State} {m : MethodId} {args : Array Value} {below : List Frame} {meth : Method} {c : Code} {Q : State → Prop} {nL : Nat} {H : Heap} {locs : List Loc} {k n : Nat} {pc : Nat} {L L' : List (Nat × Value)} {st : List Value} {cc : ByteArray} {own : String}
theorem V_L (h : L = L') (kk : V p l e R s m args below meth c Q nL H locs k n pc L' st) : V p l e R s m args below meth c Q nL H locs k n pc L st := by rw [h]; exact kk
theorem v_iret0 {z z' : Int} (X : CF p m c cc nL s args own) (hr : meth.sig.returnType = some .int) (hlk : meth.locks = false) (hdg : decode cc pc = .ok (.ireturn, 1)) (hz : z' = z) : V p l e R s m args below meth c (MQ below (Q0 (some (.int (zI z')))) args s k n (fun _ => False)) nL s.heap [] k n pc L [.int (zI z)] := by
  subst hz
  exact fun ls hl => W.iret X.1 X.2.1 hr (fun t ht hW => ⟨rfl, ht⟩) (fun _ h => by cases h) hdg hlk
theorem bz_nar {φ : Prop} [Decidable φ] : narrow .boolean (.int (zI (bz φ))) = .int (zI (bz φ)) := by
  by_cases q : φ
  · rw [bz_t q]; rfl
  · rw [bz_f q]; rfl
theorem v_zret0 {z : Int} {φ : Prop} [Decidable φ] (X : CF p m c cc nL s args own) (hr : meth.sig.returnType = some .boolean) (hlk : meth.locks = false) (hdg : decode cc pc = .ok (.ireturn, 1)) (hz : bz φ = z) : V p l e R s m args below meth c (MQ below (Q0 (some (.int (zI (bz φ))))) args s k n (fun _ => False)) nL s.heap [] k n pc L [.int (zI z)] := by
  subst hz
  exact fun ls hl => W.zret X.1 X.2.1 hr bz_nar (fun t ht hW => ⟨rfl, ht⟩) (fun _ h => by cases h) hdg hlk
theorem v_aret0 {v : Value} {rt : FieldType} (X : CF p m c cc nL s args own) (hr : meth.sig.returnType = some rt) (hrt : (∃ n, rt = .object n) ∨ ∃ t, rt = .array t) (hlk : meth.locks = false) (hdg : decode cc pc = .ok (.areturn, 1)) (hv : v = .null ∨ ∃ a, v = .ref a) : V p l e R s m args below meth c (MQ below (Q0 (some v)) args s k n (fun _ => False)) nL s.heap [] k n pc L [v] :=
  fun ls hl => W.aret X.1 X.2.1 hr hrt hv (fun t ht hW => ⟨rfl, ht⟩) (fun _ h => by cases h) hdg hlk
theorem v_vret0 (X : CF p m c cc nL s args own) (hr : meth.sig.returnType = none) (hlk : meth.locks = false) (hdg : decode cc pc = .ok (.return_, 1)) : V p l e R s m args below meth c (MQ below (Q0 none) args s k n (fun _ => False)) nL s.heap [] k n pc L [] :=
  fun ls hl => W.vret X.1 X.2.1 hr (fun t ht hW => ⟨rfl, ht⟩) (fun _ h => by cases h) hdg hlk
theorem rd_call {ls : Array Slot} {st0 rest : List Value} {a : Array Value} {w : Option Value} (hr : va_Run p l e R s m args below meth c H locs k n 0 0 (F0 m pc ls st0) rest (Q0 w a) (fun _ => False)) (kk : W p l e R s m args below meth c H locs k n Q (F0 m (pc + 3) ls (w.toList ++ rest))) : W p l e R s m args below meth c H locs k n Q (F0 m pc ls st0) := by
  intro T hT X
  obtain ⟨v, st₀, t, T', L, h0, X', hL, e1, -, ⟨hv, hh⟩, st⟩ := hr T hT X
  cases hv
  obtain ⟨t2, a1, b1⟩ := kk T' (by rw [e1, hh, h0]) (Stand.forget X' (fun q h => (hL q h).elim))
  exact ⟨t2, st t2 a1, b1⟩
variable {y : MethodName} {cy : ByteArray} {my N Lc idx : Nat} {ry : Option FieldType} {E : Nat → Nat → Nat} {wc : va_W} {w : Option Value} {b : Nat} {As st0 : List Value}
theorem room_ok (hR : (Nat.ble (Lc + 1) R.frames && Nat.ble (8 + (my + 11) + 60 * Lc) R.locals && Nat.ble k R.cells && Nat.ble n R.slots && Nat.ble (st.map fun v => v.category).sum 8) = true) : (Lc + 1 ≤ R.frames ∧ 8 + (my + 11) + 60 * Lc ≤ R.locals) ∧ (k ≤ R.cells ∧ n ≤ R.slots) ∧ (st.map fun v => v.category).sum ≤ 8 := by
  simp only [Bool.and_eq_true] at hR
  obtain ⟨⟨⟨⟨h1, h2⟩, h3⟩, h4⟩, h5⟩ := hR
  exact ⟨⟨Nat.le_of_ble_eq_true h1, Nat.le_of_ble_eq_true h2⟩, ⟨Nat.le_of_ble_eq_true h3, Nat.le_of_ble_eq_true h4⟩, Nat.le_of_ble_eq_true h5⟩
theorem kv_callB {rm : Room} {mc ms : Nat} (X : CF p m c cc nL s args own) (hk : KV y cy my ry N) (hl : Cond.methodLink own idx y ∈ WA) (hrc : rm.cells = mc) (hrs : rm.slots = ms) (hR : rm.frames + 1 ≤ R.frames ∧ 8 + (my + 11) + rm.locals ≤ R.locals) : CallB R s args own idx y cy my ry (.code y cy my ry :: WA) rm mc ms N :=
  callB_of N (Ts := .code y cy my ry :: WA) (fun w hw => (List.mem_cons.mp hw).elim (fun q => by rw [q]; exact X.2.2.2.2 _ hk.1) (X.2.2.2.2 w)) (WA_code hk.1) rfl hrc hrs (X.2.2.2.2 _ hk.2.1) (X.2.2.2.2 _ hl) hk.2.2 hR
theorem v_rdV (X : CF p m c cc nL s args own) (hC : Cx E s H) (hP : PW E wc H) (hM : Rd l y cy my ry Lc E (.ref b :: As) wc w) (hk : KV y cy my ry N) (hi : KI y) (hl : Cond.methodLink own idx y ∈ WA) {ci Nf : Nat} {T : u_T} {fs : List Value} (he : wc[0]? = some (b, .inr (ci, fs))) (hc : vwCl[ci]? = some (y.cls, T, Nf)) (hst : st0 = As.reverse ++ .ref b :: st) (hn : As.length = N)
    (hR : (Nat.ble (Lc + 1) R.frames && Nat.ble (8 + (my + 11) + 60 * Lc) R.locals && Nat.ble k R.cells && Nat.ble n R.slots && Nat.ble (st.map fun v => v.category).sum 8) = true) (hdg : decode cc pc = .ok (.invokevirtual idx, 3)) (pc' : Nat) (hp : pc + 3 = pc')
    (kk : V p l e R s m args below meth c Q nL H locs k n pc' L (w.toList ++ st)) : V p l e R s m args below meth c Q nL H locs k n pc L st0 := by
  subst hp
  obtain ⟨r1, r2, r3⟩ := room_ok hR
  intro ls hls
  have cw : CallW R s args own y.cls idx y cy my ry (.code y cy my ry :: WA) (rmL Lc 0 0) 0 0 N := ⟨kv_callB X hk hl rfl rfl r1, X.2.2.2.2 _ hi.1, X.2.2.2.2 _ hi.2⟩
  exact rd_call (va_runV (As := As) (rest := st) X hM cw ⟨P0_blind, va_recv (q := (y.cls, T, Nf)) hC.K hP hc he, fun U hU hW => ⟨rfl, by rw [hU]; exact hC.warm hW, by rw [hU]; exact hP⟩⟩ rfl hn hls.1 hst (lv_room r3) hdg r2) (kk ls hls)
theorem v_rdS (X : CF p m c cc nL s args own) (hC : Cx E s H) (hP : PW E wc H) (hM : Rd l y cy my ry Lc E As wc w) (hk : KV y cy my ry N) (hi : Cond.static y ∈ WA) (hl : Cond.methodLink own idx y ∈ WA) (hst : st0 = As.reverse ++ st) (hn : As.length = N)
    (hR : (Nat.ble (Lc + 1) R.frames && Nat.ble (8 + (my + 11) + 60 * Lc) R.locals && Nat.ble k R.cells && Nat.ble n R.slots && Nat.ble (st.map fun v => v.category).sum 8) = true) (hdg : decode cc pc = .ok (.invokestatic idx, 3)) (pc' : Nat) (hp : pc + 3 = pc')
    (kk : V p l e R s m args below meth c Q nL H locs k n pc' L (w.toList ++ st)) : V p l e R s m args below meth c Q nL H locs k n pc L st0 := by
  subst hp
  obtain ⟨r1, r2, r3⟩ := room_ok hR
  intro ls hls
  exact rd_call (va_runS (As := As) (rest := st) X hM ⟨kv_callB X hk hl rfl rfl r1, X.2.2.2.2 _ hi⟩ ⟨P0_blind, fun U hU hW => ⟨rfl, by rw [hU]; exact hC.warm hW, by rw [hU]; exact hP⟩⟩ rfl hn hls.1 hst (lv_room r3) hdg r2) (kk ls hls)
/-- a private static method of a nest mate -/
theorem v_rdSN {host : String} (X : CF p m c cc nL s args own) (hC : Cx E s H) (hP : PW E wc H) (hM : Rd l y cy my ry Lc E As wc w) (hk : KV y cy my ry N) (hi : Cond.static y ∈ WA) (hl : Cond.methodLinkNest own idx y host ∈ WN) (hst : st0 = As.reverse ++ st) (hn : As.length = N)
    (hR : (Nat.ble (Lc + 1) R.frames && Nat.ble (8 + (my + 11) + 60 * Lc) R.locals && Nat.ble k R.cells && Nat.ble n R.slots && Nat.ble (st.map fun v => v.category).sum 8) = true) (hdg : decode cc pc = .ok (.invokestatic idx, 3)) (pc' : Nat) (hp : pc + 3 = pc')
    (kk : V p l e R s m args below meth c Q nL H locs k n pc' L (w.toList ++ st)) : V p l e R s m args below meth c Q nL H locs k n pc L st0 := by
  subst hp
  obtain ⟨r1, r2, r3⟩ := room_ok hR
  intro ls hls
  have cb : va_CN R s args own idx y host cy my ry (.code y cy my ry :: WA) (rmL Lc 0 0) 0 0 N := va_cnB N (Ts := .code y cy my ry :: WA) (fun w hw => (List.mem_cons.mp hw).elim (fun q => by rw [q]; exact X.2.2.2.2 _ hk.1) (X.2.2.2.2 w)) (WA_code hk.1) rfl rfl rfl (hC.2.1.2 _ hl) (X.2.2.2.2 _ hk.2.1) hk.2.2 r1
  exact rd_call (va_runSN (As := As) (rest := st) X hM ⟨cb, X.2.2.2.2 _ hi, trivial⟩ ⟨P0_blind, fun U hU hW => ⟨rfl, by rw [hU]; exact hC.warm hW, by rw [hU]; exact hP⟩⟩ rfl hn hls.1 hst (lv_room r3) hdg r2) (kk ls hls)
end READ
