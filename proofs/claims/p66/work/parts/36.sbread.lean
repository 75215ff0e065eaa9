/-! StringBuilder: the JDK's code -/
section SBR
variable {p : Program} {l : Launch} {e : Env} {R : Room} {s : State} {m : MethodId} {args : Array Value} {below : List Frame} {meth : Method} {c : Code} {Q : State → Prop} {nL : Nat} {H : Heap} {locs : List Loc} {k n : Nat} {pc : Nat} {L L' : List (Nat × Value)} {st : List Value} {cc : ByteArray} {own : String} {E : Nat → Nat → Nat}
theorem v_comp {index : Nat} (X : CF p m c cc nL s args own) (hC : Cx E s H) (hlink : Cond.fieldLink own index "java/lang/String" "COMPACT_STRINGS" "Z" ∈ WA) (hdg : decode cc pc = .ok (.getstatic index, 3)) (pc' : Nat) (hp : pc + 3 = pc') (kk : V p l e R s m args below meth c Q nL H locs k n pc' L (.int (zI 1) :: st)) : V p l e R s m args below meth c Q nL H locs k n pc L st := by
  subst hp
  intro ls hl
  obtain ⟨cf, kf, fi, f, a, cell, h1, h2, h3, h4, h5, h6, h7, h8⟩ := hC.2.2.2.1.2.1
  exact W.gets X.1 X.2.1 X.2.2.2.1 (X.2.2.2.2 _ hlink) h1 h2 h3 h4 h5 (fun e => by rw [e] at h6; cases h6) h7 rfl hdg (kk ls hl)
theorem v_sio {index : Nat} (X : CF p m c cc nL s args own) (hC : Cx E s H) (hlink : Cond.fieldLink own index "jdk/internal/util/Preconditions" "SIOOBE_FORMATTER" "Ljava/util/function/BiFunction;" ∈ WA) (hdg : decode cc pc = .ok (.getstatic index, 3)) (pc' : Nat) (hp : pc + 3 = pc') (kk : ∀ r : Option Nat, V p l e R s m args below meth c Q nL H locs k n pc' L (va_rf r :: st)) : V p l e R s m args below meth c Q nL H locs k n pc L st := by
  subst hp
  intro ls hl
  rcases hC.2.2.2.1.2.2.1 with h | ⟨t, h⟩
  · obtain ⟨cf, kf, fi, f, a, cell, h1, h2, h3, h4, h5, h6, h7, h8⟩ := h
    exact W.gets X.1 X.2.1 X.2.2.2.1 (X.2.2.2.2 _ hlink) h1 h2 h3 h4 h5 (fun e => by rw [e] at h6; cases h6) h7 rfl hdg (kk none ls hl)
  · obtain ⟨cf, kf, fi, f, a, cell, h1, h2, h3, h4, h5, h6, h7, h8⟩ := h
    exact W.gets X.1 X.2.1 X.2.2.2.1 (X.2.2.2.2 _ hlink) h1 h2 h3 h4 h5 (fun e => by rw [e] at h6; cases h6) h7 rfl hdg (kk (some t) ls hl)
theorem v_dgs {index : Nat} (X : CF p m c cc nL s args own) (hC : Cx E s H) (j : Nat) (hj : j < 2) {nm : String} (hnm : nm = if j = 0 then "DigitOnes" else "DigitTens") (hlink : Cond.fieldLink own index "java/lang/Integer" nm "[B" ∈ WA) (hdg : decode cc pc = .ok (.getstatic index, 3)) (pc' : Nat) (hp : pc + 3 = pc') (kk : V p l e R s m args below meth c Q nL H locs k n pc' L (.ref (E 104 j) :: st)) : V p l e R s m args below meth c Q nL H locs k n pc L st := by
  subst hp; subst hnm
  intro ls hl
  obtain ⟨cf, kf, fi, f, a, cell, h1, h2, h3, h4, h5, h6, h7, h8⟩ := (hC.2.2.2.2.2.1 j hj).1
  exact W.gets X.1 X.2.1 X.2.2.2.1 (X.2.2.2.2 _ hlink) h1 h2 h3 h4 h5 (fun e => by rw [e] at h6; cases h6) h7 rfl hdg (kk ls hl)
theorem v_dgl {z : Int} (X : CF p m c cc nL s args own) (hC : Cx E s H) (j : Nat) (hj : j < 2) (h0 : 0 ≤ z) (h1 : z < 100) (hdg : decode cc pc = .ok (.baload, 1)) (pc' : Nat) (hp : pc + 1 = pc') {w : Int} (hw : w = 48 + (if j = 0 then z % 10 else z / 10)) (kk : V p l e R s m args below meth c Q nL H locs k n pc' L (.int (zI w) :: st)) : V p l e R s m args below meth c Q nL H locs k n pc L (.int (zI z) :: .ref (E 104 j) :: st) := by
  subst hp; subst hw
  intro ls hl
  obtain ⟨-, h2, cell, h3, h4, h5, h6⟩ := hC.2.2.2.2.2.1 j hj
  have hz : (zI z).toNatClampNeg = z.toNat := zI_clamp h0 (by omega)
  have h7 := h6 z.toNat (by omega)
  rw [Int.toNat_of_nonneg h0] at h7
  refine W.bald X.1 X.2.1 h3 h4 h5 ?_ (by rw [hz]; exact h7) rfl rfl hdg (kk ls hl)
  have h8 := (Array.getElem?_eq_some_iff.mp h7).1
  intro q
  rcases q with q | q
  · rw [show (0 : Int32) = zI 0 from rfl, zI_lt (by omega) (by omega)] at q
    omega
  · rw [hz] at q
    omega
theorem v_ishr0 {x : Int} (X : CF p m c cc nL s args own) (hdg : decode cc pc = .ok (.ishr, 1)) (pc' : Nat) (hp : pc + 1 = pc') (kk : V p l e R s m args below meth c Q nL H locs k n pc' L (.int (zI x) :: st)) : V p l e R s m args below meth c Q nL H locs k n pc L (.int (zI 0) :: .int (zI x) :: st) := by
  subst hp
  exact fun ls hl => lv_ishr X.1 X.2.1 hdg (by rw [← zI_0, sb_shr0]; exact kk ls hl)
theorem v_ishl0 {x : Int} (X : CF p m c cc nL s args own) (hdg : decode cc pc = .ok (.ishl, 1)) (pc' : Nat) (hp : pc + 1 = pc') (kk : V p l e R s m args below meth c Q nL H locs k n pc' L (.int (zI x) :: st)) : V p l e R s m args below meth c Q nL H locs k n pc L (.int (zI 0) :: .int (zI x) :: st) := by
  subst hp
  exact fun ls hl => lv_ishl X.1 X.2.1 hdg (by rw [← zI_0, sb_shl0]; exact kk ls hl)
theorem lat_and {x : Int} (h : 0 ≤ x ∧ x < 128) : zI x &&& zI 255 = zI x := by
  have key : ∀ j : Fin 128, zI ((j : Nat) : Int) &&& zI 255 = zI ((j : Nat) : Int) := by decide +kernel
  have := key ⟨x.toNat, by omega⟩
  rwa [show ((x.toNat : Nat) : Int) = x from Int.toNat_of_nonneg h.1] at this
theorem lat_c {x : Int} (h : 0 ≤ x ∧ x < 128) : ((zI x).toUInt32 % 65536).toInt32 = zI x := by
  have key : ∀ j : Fin 128, ((zI ((j : Nat) : Int)).toUInt32 % 65536).toInt32 = zI ((j : Nat) : Int) := by decide +kernel
  have := key ⟨x.toNat, by omega⟩
  rwa [show ((x.toNat : Nat) : Int) = x from Int.toNat_of_nonneg h.1] at this
theorem lat_b {x : Int} (h : 0 ≤ x ∧ x < 128) : (zI x).toInt8.toInt32 = zI x := by
  have key : ∀ j : Fin 128, (zI ((j : Nat) : Int)).toInt8.toInt32 = zI ((j : Nat) : Int) := by decide +kernel
  have := key ⟨x.toNat, by omega⟩
  rwa [show ((x.toNat : Nat) : Int) = x from Int.toNat_of_nonneg h.1] at this
theorem lat_nb {x : Int} (h : 0 ≤ x ∧ x < 128) : vp_nar .byte (zI x) = zI x := by
  have key : ∀ j : Fin 128, vp_nar .byte (zI ((j : Nat) : Int)) = zI ((j : Nat) : Int) := by decide +kernel
  have := key ⟨x.toNat, by omega⟩
  rwa [show ((x.toNat : Nat) : Int) = x from Int.toNat_of_nonneg h.1] at this
theorem lat_nc {x : Int} (h : 0 ≤ x ∧ x < 128) : narrow .char (.int (zI x)) = .int (zI x) := by
  have e : vp_nar .char (zI x) = zI x := zI_char ⟨h.1, by omega⟩
  exact congrArg Value.int e
theorem lat_fb {x : Int} (h : 0 ≤ x ∧ x < 128) : fits .byte (.int (zI x)) = true := by
  have key : ∀ j : Fin 128, fits .byte (.int (zI ((j : Nat) : Int))) = true := by decide +kernel
  have := key ⟨x.toNat, by omega⟩
  rwa [show ((x.toNat : Nat) : Int) = x from Int.toNat_of_nonneg h.1] at this
theorem v_iandL {x : Int} (X : CF p m c cc nL s args own) (h : 0 ≤ x ∧ x < 128) (hdg : decode cc pc = .ok (.iand, 1)) (pc' : Nat) (hp : pc + 1 = pc') (kk : V p l e R s m args below meth c Q nL H locs k n pc' L (.int (zI x) :: st)) : V p l e R s m args below meth c Q nL H locs k n pc L (.int (zI 255) :: .int (zI x) :: st) := by
  subst hp
  exact fun ls hl => lv_iand X.1 X.2.1 hdg (by rw [lat_and h]; exact kk ls hl)
theorem v_i2cL {x : Int} (X : CF p m c cc nL s args own) (h : 0 ≤ x ∧ x < 128) (hdg : decode cc pc = .ok (.i2c, 1)) (pc' : Nat) (hp : pc + 1 = pc') (kk : V p l e R s m args below meth c Q nL H locs k n pc' L (.int (zI x) :: st)) : V p l e R s m args below meth c Q nL H locs k n pc L (.int (zI x) :: st) := by
  subst hp
  exact fun ls hl => lv_i2c X.1 X.2.1 hdg (lat_c h) (kk ls hl)
theorem v_i2bL {x : Int} (X : CF p m c cc nL s args own) (h : 0 ≤ x ∧ x < 128) (hdg : decode cc pc = .ok (.i2b, 1)) (pc' : Nat) (hp : pc + 1 = pc') (kk : V p l e R s m args below meth c Q nL H locs k n pc' L (.int (zI x) :: st)) : V p l e R s m args below meth c Q nL H locs k n pc L (.int (zI x) :: st) := by
  subst hp
  exact fun ls hl => lv_i2b X.1 X.2.1 hdg (lat_b h) (kk ls hl)
theorem v_ldci {index : Nat} {v : Int32} {z : Int} (X : CF p m c cc nL s args own) (hk : Cond.constant own index v ∈ WA) (hz : v = zI z) (hdg : decode cc pc = .ok (.ldc index, 2)) (pc' : Nat) (hp : pc + 2 = pc') (kk : V p l e R s m args below meth c Q nL H locs k n pc' L (.int (zI z) :: st)) : V p l e R s m args below meth c Q nL H locs k n pc L st := by
  subst hp; subst hz
  exact fun ls hl => lv_ldc X.1 X.2.1 X.2.2.2.1 (X.2.2.2.2 _ hk) hdg (kk ls hl)
theorem v_cret0 {z z' : Int} (X : CF p m c cc nL s args own) (h : 0 ≤ z ∧ z < 128) (hr : meth.sig.returnType = some .char) (hlk : meth.locks = false) (hdg : decode cc pc = .ok (.ireturn, 1)) (hz : z' = z) : V p l e R s m args below meth c (MQ below (Q0 (some (.int (zI z')))) args s k n (fun _ => False)) nL s.heap [] k n pc L [.int (zI z)] := by
  subst hz
  exact fun ls hl => W.zret X.1 X.2.1 hr (lat_nc h) (fun t ht hW => ⟨rfl, ht⟩) (fun _ h => by cases h) hdg hlk
variable {y : MethodName} {cy : ByteArray} {my N Lc idx k' n' mc ms : Nat} {ry : Option FieldType} {wc : va_W} {b : Nat} {As st0 : List Value} {Pr : Heap → Prop} {Po : Option Value → Heap → Prop} {rs rs' : List (Nat × Nat)} {C : String} {w : Option Value}
/-- a method that the object's class inherits -/
theorem kv_callU {rm : Room} (X : CF p m c cc nL s args own) (hk : KV y cy my ry N) (hl : Cond.methodLink own idx y ∈ WA) (hsm : Cond.sameMethod y.cls y.cls y.name y.desc ∈ WA) (hsel : (Cond.selects C y y).before args s = true) (hi : Cond.instanceMethod y ∈ WA) (hrc : rm.cells = mc) (hrs : rm.slots = ms) (hR : rm.frames + 1 ≤ R.frames ∧ 8 + (my + 11) + rm.locals ≤ R.locals) : va_CU R s args own C y.cls idx y y cy my ry (.code y cy my ry :: WA) rm mc ms N := by
  have ht : ∀ w ∈ (.code y cy my ry :: WA : List Cond), w.before args s = true := fun w hw => (List.mem_cons.mp hw).elim (fun q => by rw [q]; exact X.2.2.2.2 _ hk.1) (X.2.2.2.2 w)
  have hG : GoodIn (.code y cy my ry :: WA) (.code y cy my ry :: WA) := WA_code hk.1
  refine ⟨⟨hrc, hrs, hR.1, hR.2, pay_in ht hG, List.mem_cons_self⟩, ht _ List.mem_cons_self, X.2.2.2.2 _ hk.2.1, ⟨hk.2.2.1, hk.2.2.2.1⟩, fun sig h => ?_, X.2.2.2.2 _ hl, X.2.2.2.2 _ hsm, va_Decl.of (X.2.2.2.2 _ hi) (ht _ List.mem_cons_self), hsel, X.2.2.2.2 _ hi⟩
  have h2 := hk.2.2.2.2
  rw [h] at h2
  exact (Option.some.inj h2).symm
theorem v_rdU (X : CF p m c cc nL s args own) (hC : Cx E s H) (hP : PW E wc H) (hM : Rd l y cy my ry Lc E (.ref b :: As) wc w) (hk : KV y cy my ry N) (hi : Cond.instanceMethod y ∈ WA) (hsm : Cond.sameMethod y.cls y.cls y.name y.desc ∈ WA) (hsel : (Cond.selects C y y).before args s = true) (hl : Cond.methodLink own idx y ∈ WA) {ci Nf : Nat} {T : u_T} {fs : List Value} (he : wc[0]? = some (b, .inr (ci, fs))) (hc : vwCl[ci]? = some (C, T, Nf)) (hst : st0 = As.reverse ++ .ref b :: st) (hn : As.length = N)
    (hR : (Nat.ble (Lc + 1) R.frames && Nat.ble (8 + (my + 11) + 60 * Lc) R.locals && Nat.ble k R.cells && Nat.ble n R.slots && Nat.ble (st.map fun v => v.category).sum 8) = true) (hdg : decode cc pc = .ok (.invokevirtual idx, 3)) (pc' : Nat) (hp : pc + 3 = pc')
    (kk : V p l e R s m args below meth c Q nL H locs k n pc' L (w.toList ++ st)) : V p l e R s m args below meth c Q nL H locs k n pc L st0 := by
  subst hp
  obtain ⟨r1, r2, r3⟩ := room_ok hR
  intro ls hls
  exact rd_call (va_runU (As := As) (rest := st) X hM (kv_callU (rm := rmL Lc 0 0) X hk hl hsm hsel hi rfl rfl r1) ⟨P0_blind, va_recv (q := (C, T, Nf)) hC.K hP hc he, fun U hU hW => ⟨rfl, by rw [hU]; exact hC.warm hW, by rw [hU]; exact hP⟩⟩ rfl hn hls.1 hst (lv_room r3) hdg r2) (kk ls hls)
theorem v_muU (X : CF p m c cc nL s args own) (hM : MS E rs s H locs) (hP : PW E wc H) (hc1 : Mu l y cy my ry Lc mc ms E rs' (.ref b :: As) Pr Po) (hk : KV y cy my ry N) (hi : Cond.instanceMethod y ∈ WA) (hsm : Cond.sameMethod y.cls y.cls y.name y.desc ∈ WA) (hsel : (Cond.selects C y y).before args s = true) (hl : Cond.methodLink own idx y ∈ WA) {q0 ci Nf : Nat} {T : u_T} {fs : List Value} (he : wc[q0]? = some (b, .inr (ci, fs))) (hc : vwCl[ci]? = some (C, T, Nf)) (hst : st0 = As.reverse ++ .ref b :: st) (hn : As.length = N)
    (hR : (Nat.ble (Lc + 1) R.frames && Nat.ble (8 + (my + 11) + 60 * Lc) R.locals && Nat.ble (k + mc) R.cells && Nat.ble (n + ms) R.slots && Nat.ble (st.map fun v => v.category).sum 8) = true) (hdg : decode cc pc = .ok (.invokevirtual idx, 3)) (pc' : Nat) (hp : pc + 3 = pc') (hk' : k + mc = k') (hn' : n + ms = n') (hs : ∀ q, Fs rs' q → Fr rs s.heap.size q) (hpr : Pr H)
    (kk : ∀ (v : Option Value) (H1 : Heap) (locs1 : List Loc), MS E rs s H1 locs1 → Fm rs' H H1 → Po v H1 → V p l e R s m args below meth c Q nL H1 locs1 k' n' pc' L (v.toList ++ st)) : V p l e R s m args below meth c Q nL H locs k n pc L st0 := by
  subst hp; subst hk'; subst hn'
  obtain ⟨r1, r2, r3⟩ := room_okM hR
  intro ls hls
  exact mu_call (va_runU (As := As) (rest := st) X (hc1 H.size) (kv_callU (rm := rmL Lc mc ms) X hk hl hsm hsel hi rfl rfl r1) ⟨Pm_blind, va_recv (q := (C, T, Nf)) hM.C.K hP hc he, fun U hU hW => ⟨rfl, by rw [hU]; exact hM.C.warm hW, by rw [hU], fun q z => hM.z (hs q z), by rw [hU]; exact hpr⟩⟩ rfl hn hls.1 hst (lv_room r3) hdg r2) hM hs (fun v H1 locs1 a b c => kk v H1 locs1 a b c ls hls)
/-- super's method -/
theorem kv_callSU {rm : Room} (X : CF p m c cc nL s args own) (hk : KV y cy my ry N) (hl : Cond.methodLink own idx y ∈ WA) (hsm : Cond.sameMethod y.cls y.cls y.name y.desc ∈ WA) (hsu : Cond.superclass own y.cls ∈ WA) (hi : Cond.instanceMethod y ∈ WA) (hno : y.name ≠ "<init>") (hrc : rm.cells = mc) (hrs : rm.slots = ms) (hR : rm.frames + 1 ≤ R.frames ∧ 8 + (my + 11) + rm.locals ≤ R.locals) : va_CS R s args own idx y cy my ry (.code y cy my ry :: WA) rm mc ms N := by
  have ht : ∀ w ∈ (.code y cy my ry :: WA : List Cond), w.before args s = true := fun w hw => (List.mem_cons.mp hw).elim (fun q => by rw [q]; exact X.2.2.2.2 _ hk.1) (X.2.2.2.2 w)
  have hG : GoodIn (.code y cy my ry :: WA) (.code y cy my ry :: WA) := WA_code hk.1
  refine ⟨⟨hrc, hrs, hR.1, hR.2, pay_in ht hG, List.mem_cons_self⟩, X.2.2.2.2 _ hl, X.2.2.2.2 _ hsm, X.2.2.2.2 _ hsu, X.2.2.2.2 _ hi, X.2.2.2.2 _ hk.2.1, ht _ List.mem_cons_self, hno, fun sig h => ?_⟩
  have h2 := hk.2.2.2.2
  rw [h] at h2
  exact (Option.some.inj h2).symm
theorem v_rdSU (X : CF p m c cc nL s args own) (hC : Cx E s H) (hP : PW E wc H) (hM : Rd l y cy my ry Lc E (.ref b :: As) wc w) (hk : KV y cy my ry N) (hi : Cond.instanceMethod y ∈ WA) (hsm : Cond.sameMethod y.cls y.cls y.name y.desc ∈ WA) (hsu : Cond.superclass own y.cls ∈ WA) (hno : y.name ≠ "<init>") (hl : Cond.methodLink own idx y ∈ WA) {ci Nf : Nat} {T : u_T} {fs : List Value} (he : wc[0]? = some (b, .inr (ci, fs))) (hc : vwCl[ci]? = some (C, T, Nf)) (hst : st0 = As.reverse ++ .ref b :: st) (hn : As.length = N)
    (hR : (Nat.ble (Lc + 1) R.frames && Nat.ble (8 + (my + 11) + 60 * Lc) R.locals && Nat.ble k R.cells && Nat.ble n R.slots && Nat.ble (st.map fun v => v.category).sum 8) = true) (hdg : decode cc pc = .ok (.invokespecial idx, 3)) (pc' : Nat) (hp : pc + 3 = pc')
    (kk : V p l e R s m args below meth c Q nL H locs k n pc' L (w.toList ++ st)) : V p l e R s m args below meth c Q nL H locs k n pc L st0 := by
  subst hp
  obtain ⟨r1, r2, r3⟩ := room_ok hR
  intro ls hls
  exact rd_call (va_runSU (As := As) (rest := st) (hC.K.1 ci _ hc).2 X hM (kv_callSU (rm := rmL Lc 0 0) X hk hl hsm hsu hi hno rfl rfl r1) ⟨P0_blind, va_recv (q := (C, T, Nf)) hC.K hP hc he, fun U hU hW => ⟨rfl, by rw [hU]; exact hC.warm hW, by rw [hU]; exact hP⟩⟩ rfl hn hls.1 hst (lv_room r3) hdg r2) (kk ls hls)
theorem v_muSU (X : CF p m c cc nL s args own) (hM : MS E rs s H locs) (hP : PW E wc H) (hc1 : Mu l y cy my ry Lc mc ms E rs' (.ref b :: As) Pr Po) (hk : KV y cy my ry N) (hi : Cond.instanceMethod y ∈ WA) (hsm : Cond.sameMethod y.cls y.cls y.name y.desc ∈ WA) (hsu : Cond.superclass own y.cls ∈ WA) (hno : y.name ≠ "<init>") (hl : Cond.methodLink own idx y ∈ WA) {q0 ci Nf : Nat} {T : u_T} {fs : List Value} (he : wc[q0]? = some (b, .inr (ci, fs))) (hc : vwCl[ci]? = some (C, T, Nf)) (hst : st0 = As.reverse ++ .ref b :: st) (hn : As.length = N)
    (hR : (Nat.ble (Lc + 1) R.frames && Nat.ble (8 + (my + 11) + 60 * Lc) R.locals && Nat.ble (k + mc) R.cells && Nat.ble (n + ms) R.slots && Nat.ble (st.map fun v => v.category).sum 8) = true) (hdg : decode cc pc = .ok (.invokespecial idx, 3)) (pc' : Nat) (hp : pc + 3 = pc') (hk' : k + mc = k') (hn' : n + ms = n') (hs : ∀ q, Fs rs' q → Fr rs s.heap.size q) (hpr : Pr H)
    (kk : ∀ (v : Option Value) (H1 : Heap) (locs1 : List Loc), MS E rs s H1 locs1 → Fm rs' H H1 → Po v H1 → V p l e R s m args below meth c Q nL H1 locs1 k' n' pc' L (v.toList ++ st)) : V p l e R s m args below meth c Q nL H locs k n pc L st0 := by
  subst hp; subst hk'; subst hn'
  obtain ⟨r1, r2, r3⟩ := room_okM hR
  intro ls hls
  exact mu_call (va_runSU (As := As) (rest := st) (hM.C.K.1 ci _ hc).2 X (hc1 H.size) (kv_callSU (rm := rmL Lc mc ms) X hk hl hsm hsu hi hno rfl rfl r1) ⟨Pm_blind, va_recv (q := (C, T, Nf)) hM.C.K hP hc he, fun U hU hW => ⟨rfl, by rw [hU]; exact hM.C.warm hW, by rw [hU], fun q z => hM.z (hs q z), by rw [hU]; exact hpr⟩⟩ rfl hn hls.1 hst (lv_room r3) hdg r2) hM hs (fun v H1 locs1 a b c => kk v H1 locs1 a b c ls hls)
end SBR
theorem ksup_J4 : Cond.superclass RJ4 RJ5 ∈ WA := WA_of (i := 263) (by decide +kernel) (by decide +kernel)
theorem ksm_J5_isLatin1_aae02 : Cond.sameMethod yJ5_isLatin1_aae02.cls yJ5_isLatin1_aae02.cls yJ5_isLatin1_aae02.name yJ5_isLatin1_aae02.desc ∈ WA := WA_of (i := 919) (by decide +kernel) (by decide +kernel)
theorem kim_J5_isLatin1_aae02 : Cond.instanceMethod yJ5_isLatin1_aae02 ∈ WA := WA_of (i := 918) (by decide +kernel) (by decide +kernel)
theorem ksl_J5_isLatin1_aae02 : Cond.selects RJ4 yJ5_isLatin1_aae02 yJ5_isLatin1_aae02 ∈ WA := WA_of (i := 920) (by decide +kernel) (by decide +kernel)
theorem ksm_J5_length_8abf5 : Cond.sameMethod yJ5_length_8abf5.cls yJ5_length_8abf5.cls yJ5_length_8abf5.name yJ5_length_8abf5.desc ∈ WA := WA_of (i := 1036) (by decide +kernel) (by decide +kernel)
theorem kim_J5_length_8abf5 : Cond.instanceMethod yJ5_length_8abf5 ∈ WA := WA_of (i := 1035) (by decide +kernel) (by decide +kernel)
theorem ksm_J5_charAt_5068e : Cond.sameMethod yJ5_charAt_5068e.cls yJ5_charAt_5068e.cls yJ5_charAt_5068e.name yJ5_charAt_5068e.desc ∈ WA := WA_of (i := 1497) (by decide +kernel) (by decide +kernel)
theorem kim_J5_charAt_5068e : Cond.instanceMethod yJ5_charAt_5068e ∈ WA := WA_of (i := 1437) (by decide +kernel) (by decide +kernel)
theorem ksm_J5_ensureCapacityInternal_d00df : Cond.sameMethod yJ5_ensureCapacityInternal_d00df.cls yJ5_ensureCapacityInternal_d00df.cls yJ5_ensureCapacityInternal_d00df.name yJ5_ensureCapacityInternal_d00df.desc ∈ WA := WA_of (i := 1489) (by decide +kernel) (by decide +kernel)
theorem kim_J5_ensureCapacityInternal_d00df : Cond.instanceMethod yJ5_ensureCapacityInternal_d00df ∈ WA := WA_of (i := 884) (by decide +kernel) (by decide +kernel)
theorem ksm_J5_newCapacity_0f7a4 : Cond.sameMethod yJ5_newCapacity_0f7a4.cls yJ5_newCapacity_0f7a4.cls yJ5_newCapacity_0f7a4.name yJ5_newCapacity_0f7a4.desc ∈ WA := WA_of (i := 1490) (by decide +kernel) (by decide +kernel)
theorem kim_J5_newCapacity_0f7a4 : Cond.instanceMethod yJ5_newCapacity_0f7a4 ∈ WA := WA_of (i := 888) (by decide +kernel) (by decide +kernel)
theorem ksm_J5_setLength_d00df : Cond.sameMethod yJ5_setLength_d00df.cls yJ5_setLength_d00df.cls yJ5_setLength_d00df.name yJ5_setLength_d00df.desc ∈ WA := WA_of (i := 1486) (by decide +kernel) (by decide +kernel)
theorem kim_J5_setLength_d00df : Cond.instanceMethod yJ5_setLength_d00df ∈ WA := WA_of (i := 861) (by decide +kernel) (by decide +kernel)
theorem ksm_J5_append_3fe6f : Cond.sameMethod yJ5_append_3fe6f.cls yJ5_append_3fe6f.cls yJ5_append_3fe6f.name yJ5_append_3fe6f.desc ∈ WA := WA_of (i := 1495) (by decide +kernel) (by decide +kernel)
theorem kim_J5_append_3fe6f : Cond.instanceMethod yJ5_append_3fe6f ∈ WA := WA_of (i := 1141) (by decide +kernel) (by decide +kernel)
theorem ksm_J5_append_c97b9 : Cond.sameMethod yJ5_append_c97b9.cls yJ5_append_c97b9.cls yJ5_append_c97b9.name yJ5_append_c97b9.desc ∈ WA := WA_of (i := 1494) (by decide +kernel) (by decide +kernel)
theorem kim_J5_append_c97b9 : Cond.instanceMethod yJ5_append_c97b9 ∈ WA := WA_of (i := 996) (by decide +kernel) (by decide +kernel)
theorem kcn_J8_200 : Cond.constant RJ8 200 (2147483639 : Int32) ∈ WA := WA_of (i := 896) (by decide +kernel) (by decide +kernel)
theorem kcn_J5_39 : Cond.constant RJ5 39 (2147483647 : Int32) ∈ WA := WA_of (i := 900) (by decide +kernel) (by decide +kernel)
set_option maxHeartbeats 4000000 in
set_option maxRecDepth 20000 in
theorem c_J1_canEncode_fc78d (l : Launch) (E : Nat → Nat → Nat) (x : Int) (x0 : 0 ≤ x) (x1 : x < 128) : Rd l yJ1_canEncode_fc78d cJ1_canEncode_fc78d 1 (some .boolean) 0 E [.int (zI x)] ([]) (some (.int (zI (bz ((0 : Int) = 0))))) := by
  refine Rd.start (own := RJ1) rfl (by decide +kernel) (Nat.le_of_ble_eq_true rfl) ?_
  intro p e s m below meth cd args Q hQ X hr hlk hC hP
  refine v_iload_n X dJ1_canEncode_fc78d_0 1 rfl 0 rfl ?_
  refine v_sipush X dJ1_canEncode_fc78d_1 4 rfl rfl ?_
  refine v_icmp_gt X (by omega) (by omega) dJ1_canEncode_fc78d_4 7 11 rfl (by decide) (fun c_1 => ?_) (fun c_1 => ?_)
  · skip
    exfalso; omega
  · skip
    refine v_iconst X dJ1_canEncode_fc78d_7 8 rfl ?_
    refine v_goto X dJ1_canEncode_fc78d_8 12 (by decide) ?_
    subst hQ; exact v_zret0 X hr hlk dJ1_canEncode_fc78d_12 (bz_t (by omega))
set_option maxHeartbeats 4000000 in
set_option maxRecDepth 20000 in
theorem c_J5_isLatin1_aae02 (l : Launch) (E : Nat → Nat → Nat) (b : Nat) (v : Nat) (ml : Int) (n : Int) : Rd l yJ5_isLatin1_aae02 cJ5_isLatin1_aae02 1 (some .boolean) 0 E [.ref b] ([(b, .inr (1, [.ref v, .int (zI 0), .int (zI ml), .int (zI n)]))]) (some (.int (zI (bz ((0 : Int) = 0))))) := by
  refine Rd.start (own := RJ5) rfl (by decide +kernel) (Nat.le_of_ble_eq_true rfl) ?_
  intro p e s m below meth cd args Q hQ X hr hlk hC hP
  have h_sb := hP
  refine v_comp X hC kf_J5_18 dJ5_isLatin1_aae02_0 3 rfl ?_
  refine v_if_eq X (by omega) dJ5_isLatin1_aae02_3 6 17 rfl (by decide) (fun c_1 => ?_) (fun c_1 => ?_)
  · skip
    exfalso; omega
  · skip
    refine v_aload_n X dJ5_isLatin1_aae02_6 7 rfl 0 rfl ?_
    refine v_getf X hC h_sb inJ4 0 rfl rfl 1 (by decide) kf_J5_22 (fun _ h => h) rfl dJ5_isLatin1_aae02_7 10 rfl ?_
    show V p l e (rmL 0 0 0) s m args below meth cd Q 1 s.heap [] 0 0 10 [(0, .ref b)] [.int (zI 0)]
    refine v_if_ne X (by omega) dJ5_isLatin1_aae02_10 13 17 rfl (by decide) (fun c_2 => ?_) (fun c_2 => ?_)
    · skip
      exfalso; omega
    · skip
      refine v_iconst X dJ5_isLatin1_aae02_13 14 rfl ?_
      refine v_goto X dJ5_isLatin1_aae02_14 18 (by decide) ?_
      subst hQ; exact v_zret0 X hr hlk dJ5_isLatin1_aae02_18 (bz_t (by omega))
set_option maxHeartbeats 4000000 in
set_option maxRecDepth 20000 in
theorem c_J5_length_8abf5 (l : Launch) (E : Nat → Nat → Nat) (b : Nat) (v : Nat) (ml : Int) (n : Int) : Rd l yJ5_length_8abf5 cJ5_length_8abf5 1 (some .int) 0 E [.ref b] ([(b, .inr (1, [.ref v, .int (zI 0), .int (zI ml), .int (zI n)]))]) (some (.int (zI n))) := by
  refine Rd.start (own := RJ5) rfl (by decide +kernel) (Nat.le_of_ble_eq_true rfl) ?_
  intro p e s m below meth cd args Q hQ X hr hlk hC hP
  have h_sb := hP
  refine v_aload_n X dJ5_length_8abf5_0 1 rfl 0 rfl ?_
  refine v_getf X hC h_sb inJ4 0 rfl rfl 3 (by decide) kf_J5_79 (fun _ h => h) rfl dJ5_length_8abf5_1 4 rfl ?_
  show V p l e (rmL 0 0 0) s m args below meth cd Q 1 s.heap [] 0 0 4 [(0, .ref b)] [.int (zI n)]
  subst hQ; exact v_iret0 X hr hlk dJ5_length_8abf5_4 rfl
set_option maxHeartbeats 4000000 in
set_option maxRecDepth 20000 in
theorem c_J4_length_8abf5 (l : Launch) (E : Nat → Nat → Nat) (b : Nat) (v : Nat) (ml : Int) (n : Int) : Rd l yJ4_length_8abf5 cJ4_length_8abf5 1 (some .int) 1 E [.ref b] ([(b, .inr (1, [.ref v, .int (zI 0), .int (zI ml), .int (zI n)]))]) (some (.int (zI n))) := by
  refine Rd.start (own := RJ4) rfl (by decide +kernel) (Nat.le_of_ble_eq_true rfl) ?_
  intro p e s m below meth cd args Q hQ X hr hlk hC hP
  have h_sb := hP
  refine v_aload_n X dJ4_length_8abf5_0 1 rfl 0 rfl ?_
  refine v_rdSU (C := RJ4) X hC h_sb (c_J5_length_8abf5 l E b v ml n) kvJ5_length_8abf5 kim_J5_length_8abf5 ksm_J5_length_8abf5 ksup_J4 (by decide) kl_J4_343 rfl rfl (As := []) rfl rfl rfl dJ4_length_8abf5_1 4 rfl ?_
  show V p l e (rmL 1 0 0) s m args below meth cd Q 1 s.heap [] 0 0 4 [(0, .ref b)] [.int (zI n)]
  subst hQ; exact v_iret0 X hr hlk dJ4_length_8abf5_4 rfl
set_option maxHeartbeats 4000000 in
set_option maxRecDepth 20000 in
theorem c_J3_checkIndex_8e157 (l : Launch) (E : Nat → Nat → Nat) (i : Int) (n : Int) (r : Option Nat) (i0 : 0 ≤ i) (i1 : i < n) (n1 : n < 2147483648) : Rd l yJ3_checkIndex_8e157 cJ3_checkIndex_8e157 3 (some .int) 0 E [.int (zI i), .int (zI n), va_rf r] ([]) (some (.int (zI i))) := by
  refine Rd.start (own := RJ3) rfl (by decide +kernel) (by cases r <;> exact Nat.le_of_ble_eq_true rfl) ?_
  intro p e s m below meth cd args Q hQ X hr hlk hC hP
  refine v_iload_n X dJ3_checkIndex_8e157_0 1 rfl 0 rfl ?_
  refine v_if_lt X (by omega) dJ3_checkIndex_8e157_1 4 9 rfl (by decide) (fun c_1 => ?_) (fun c_1 => ?_)
  · skip
    exfalso; omega
  · skip
    refine v_iload_n X dJ3_checkIndex_8e157_4 5 rfl 0 rfl ?_
    refine v_iload_n X dJ3_checkIndex_8e157_5 6 rfl 1 rfl ?_
    refine v_icmp_lt X (by omega) (by omega) dJ3_checkIndex_8e157_6 9 16 rfl (by decide) (fun c_2 => ?_) (fun c_2 => ?_)
    · skip
      refine v_iload_n X dJ3_checkIndex_8e157_16 17 rfl 0 rfl ?_
      subst hQ; exact v_iret0 X hr hlk dJ3_checkIndex_8e157_17 rfl
    · skip
      exfalso; omega
set_option maxHeartbeats 4000000 in
set_option maxRecDepth 20000 in
theorem c_J0_checkIndex_df160 (l : Launch) (E : Nat → Nat → Nat) (i : Int) (n : Int) (i0 : 0 ≤ i) (i1 : i < n) (n1 : n < 2147483648) : Rd l yJ0_checkIndex_df160 cJ0_checkIndex_df160 2 none 1 E [.int (zI i), .int (zI n)] ([]) none := by
  refine Rd.start (own := RJ0) rfl (by decide +kernel) (Nat.le_of_ble_eq_true rfl) ?_
  intro p e s m below meth cd args Q hQ X hr hlk hC hP
  refine v_iload_n X dJ0_checkIndex_df160_0 1 rfl 0 rfl ?_
  refine v_iload_n X dJ0_checkIndex_df160_1 2 rfl 1 rfl ?_
  refine v_sio X hC kf_J0_1053 dJ0_checkIndex_df160_2 5 rfl (fun fr_1 => ?_)
  refine v_rdS X hC (ws0 E s.heap) (c_J3_checkIndex_8e157 l E i n fr_1 i0 i1 n1) kvJ3_checkIndex_8e157 ksJ3_checkIndex_8e157 kl_J0_1059 (As := [.int (zI i), .int (zI n), va_rf fr_1]) rfl rfl rfl dJ0_checkIndex_df160_5 8 rfl ?_
  show V p l e (rmL 1 0 0) s m args below meth cd Q 2 s.heap [] 0 0 8 [(0, .int (zI i)), (1, .int (zI n))] [.int (zI i)]
  refine v_pop X dJ0_checkIndex_df160_8 9 rfl rfl ?_
  subst hQ; exact v_vret0 X hr hlk dJ0_checkIndex_df160_9
set_option maxHeartbeats 4000000 in
set_option maxRecDepth 20000 in
theorem c_J5_charAt_5068e (l : Launch) (E : Nat → Nat → Nat) (b : Nat) (v : Nat) (N : Nat) (f : Int → Int) (ml : Int) (n : Int) (i : Int) (i0 : 0 ≤ i) (i1 : i < n) (n1 : n ≤ N) (N1 : N < 1000) (hf : ∀ j : Int, 0 ≤ f j ∧ f j < 128) : Rd l yJ5_charAt_5068e cJ5_charAt_5068e 5 (some .char) 2 E [.ref b, .int (zI i)] ([(b, .inr (1, [.ref v, .int (zI 0), .int (zI ml), .int (zI n)]))] ++ [(v, .inl (E 102 2, N, .inl (zA f)))]) (some (.int (zI (f i)))) := by
  refine Rd.start (own := RJ5) rfl (by decide +kernel) (Nat.le_of_ble_eq_true rfl) ?_
  intro p e s m below meth cd args Q hQ X hr hlk hC hP
  have h_sa := PW.right hP
  have h_sb := (PW.left hP)
  refine v_aload_n X dJ5_charAt_5068e_0 1 rfl 0 rfl ?_
  refine v_getf X hC h_sb inJ4 0 rfl rfl 1 (by decide) kf_J5_22 (fun _ h => h) rfl dJ5_charAt_5068e_1 4 rfl ?_
  show V p l e (rmL 2 0 0) s m args below meth cd Q 5 s.heap [] 0 0 4 [(0, .ref b), (1, .int (zI i))] [.int (zI 0)]
  refine v_istore_n X dJ5_charAt_5068e_4 5 rfl rfl (by decide) (L' := [(2, .int (zI 0)), (0, .ref b), (1, .int (zI i))]) rfl ?_
  refine v_aload_n X dJ5_charAt_5068e_5 6 rfl 1 rfl ?_
  refine v_getf X hC h_sb inJ4 0 rfl rfl 0 (by decide) kf_J5_15 (fun _ h => h) rfl dJ5_charAt_5068e_6 9 rfl ?_
  refine v_astore_n X dJ5_charAt_5068e_9 10 rfl rfl (by decide) (L' := [(3, .ref v), (2, .int (zI 0)), (0, .ref b), (1, .int (zI i))]) rfl ?_
  refine v_aload_n X dJ5_charAt_5068e_10 11 rfl 2 rfl ?_
  refine v_getf X hC h_sb inJ4 0 rfl rfl 3 (by decide) kf_J5_79 (fun _ h => h) rfl dJ5_charAt_5068e_11 14 rfl ?_
  show V p l e (rmL 2 0 0) s m args below meth cd Q 5 s.heap [] 0 0 14 [(3, .ref v), (2, .int (zI 0)), (0, .ref b), (1, .int (zI i))] [.int (zI n)]
  refine v_aload_n X dJ5_charAt_5068e_14 15 rfl 0 rfl ?_
  refine v_alen X hC h_sa 0 2 rfl rfl dJ5_charAt_5068e_15 16 rfl ?_
  refine v_iload_n X dJ5_charAt_5068e_16 17 rfl 1 rfl ?_
  refine v_ishr0 X dJ5_charAt_5068e_17 18 rfl ?_
  refine v_mmin X (by omega) (by omega) kl_J5_138 dJ5_charAt_5068e_18 21 rfl rfl ?_
  refine v_istore X dJ5_charAt_5068e_21 23 rfl (by decide) (L' := [(4, .int (zI (min n (N : Int)))), (3, .ref v), (2, .int (zI 0)), (0, .ref b), (1, .int (zI i))]) rfl ?_
  refine v_iload_n X dJ5_charAt_5068e_23 24 rfl 4 rfl ?_
  refine v_iload X dJ5_charAt_5068e_24 26 rfl 0 rfl ?_
  refine v_rdS X hC (ws0 E s.heap) (c_J0_checkIndex_df160 l E i (min n (N : Int)) i0 (by omega) (by omega)) kvJ0_checkIndex_df160 ksJ0_checkIndex_df160 kl_J5_144 (As := [.int (zI i), .int (zI (min n (N : Int)))]) rfl rfl rfl dJ5_charAt_5068e_26 29 rfl ?_
  show V p l e (rmL 2 0 0) s m args below meth cd Q 5 s.heap [] 0 0 29 [(4, .int (zI (min n (N : Int)))), (3, .ref v), (2, .int (zI 0)), (0, .ref b), (1, .int (zI i))] []
  refine v_iload_n X dJ5_charAt_5068e_29 30 rfl 2 rfl ?_
  refine v_if_ne X (by omega) dJ5_charAt_5068e_30 33 42 rfl (by decide) (fun c_1 => ?_) (fun c_1 => ?_)
  · skip
    exfalso; omega
  · skip
    refine v_aload_n X dJ5_charAt_5068e_33 34 rfl 1 rfl ?_
    refine v_iload_n X dJ5_charAt_5068e_34 35 rfl 4 rfl ?_
    refine v_bald X hC h_sa 0 rfl (by omega) (by omega) (by omega) dJ5_charAt_5068e_35 36 rfl ?_
    refine v_sipush X dJ5_charAt_5068e_36 39 rfl rfl ?_
    refine v_iandL X (hf i) dJ5_charAt_5068e_39 40 rfl ?_
    refine v_i2cL X (hf i) dJ5_charAt_5068e_40 41 rfl ?_
    subst hQ; exact v_cret0 X (hf i) hr hlk dJ5_charAt_5068e_41 rfl
set_option maxHeartbeats 4000000 in
set_option maxRecDepth 20000 in
theorem c_J4_charAt_5068e (l : Launch) (E : Nat → Nat → Nat) (b : Nat) (v : Nat) (N : Nat) (f : Int → Int) (ml : Int) (n : Int) (i : Int) (i0 : 0 ≤ i) (i1 : i < n) (n1 : n ≤ N) (N1 : N < 1000) (hf : ∀ j : Int, 0 ≤ f j ∧ f j < 128) : Rd l yJ4_charAt_5068e cJ4_charAt_5068e 2 (some .char) 3 E [.ref b, .int (zI i)] ([(b, .inr (1, [.ref v, .int (zI 0), .int (zI ml), .int (zI n)]))] ++ [(v, .inl (E 102 2, N, .inl (zA f)))]) (some (.int (zI (f i)))) := by
  refine Rd.start (own := RJ4) rfl (by decide +kernel) (Nat.le_of_ble_eq_true rfl) ?_
  intro p e s m below meth cd args Q hQ X hr hlk hC hP
  have h_sa := PW.right hP
  have h_sb := (PW.left hP)
  refine v_aload_n X dJ4_charAt_5068e_0 1 rfl 0 rfl ?_
  refine v_iload_n X dJ4_charAt_5068e_1 2 rfl 1 rfl ?_
  refine v_rdSU (C := RJ4) X hC (PW.app h_sb h_sa) (c_J5_charAt_5068e l E b v N f ml n i i0 i1 n1 N1 hf) kvJ5_charAt_5068e kim_J5_charAt_5068e ksm_J5_charAt_5068e ksup_J4 (by decide) kl_J4_329 rfl rfl (As := [.int (zI i)]) rfl rfl rfl dJ4_charAt_5068e_2 5 rfl ?_
  show V p l e (rmL 3 0 0) s m args below meth cd Q 2 s.heap [] 0 0 5 [(0, .ref b), (1, .int (zI i))] [.int (zI (f i))]
  subst hQ; exact v_cret0 X (hf i) hr hlk dJ4_charAt_5068e_5 rfl
set_option maxHeartbeats 4000000 in
set_option maxRecDepth 20000 in
theorem c_J8_newLength_cabcc (l : Launch) (E : Nat → Nat → Nat) (i : Int) (d : Int) (g : Int) (i0 : 0 ≤ i) (i1 : i < 1000) (d0 : -1000 ≤ d) (d1 : d < 1000) (g0 : 0 < g) (g1 : g < 1010) : Rd l yJ8_newLength_cabcc cJ8_newLength_cabcc 4 (some .int) 1 E [.int (zI i), .int (zI d), .int (zI g)] ([]) (some (.int (zI (i + max d g)))) := by
  refine Rd.start (own := RJ8) rfl (by decide +kernel) (Nat.le_of_ble_eq_true rfl) ?_
  intro p e s m below meth cd args Q hQ X hr hlk hC hP
  refine v_iload_n X dJ8_newLength_cabcc_0 1 rfl 0 rfl ?_
  refine v_iload_n X dJ8_newLength_cabcc_1 2 rfl 1 rfl ?_
  refine v_iload_n X dJ8_newLength_cabcc_2 3 rfl 2 rfl ?_
  refine v_mmax X (by omega) (by omega) kl_J8_194 dJ8_newLength_cabcc_3 6 rfl rfl ?_
  refine v_iadd X dJ8_newLength_cabcc_6 7 rfl ?_
  refine v_istore_n X dJ8_newLength_cabcc_7 8 rfl rfl (by decide) (L' := [(3, .int (zI (i + max d g))), (0, .int (zI i)), (1, .int (zI d)), (2, .int (zI g))]) rfl ?_
  refine v_iconst X dJ8_newLength_cabcc_8 9 rfl ?_
  refine v_iload_n X dJ8_newLength_cabcc_9 10 rfl 0 rfl ?_
  refine v_icmp_ge X (by omega) (by omega) dJ8_newLength_cabcc_10 13 21 rfl (by decide) (fun c_1 => ?_) (fun c_1 => ?_)
  · skip
    exfalso; omega
  · skip
    refine v_iload_n X dJ8_newLength_cabcc_13 14 rfl 0 rfl ?_
    refine v_ldci X kcn_J8_200 (z := 2147483639) rfl dJ8_newLength_cabcc_14 16 rfl ?_
    refine v_icmp_gt X (by omega) (by omega) dJ8_newLength_cabcc_16 19 21 rfl (by decide) (fun c_2 => ?_) (fun c_2 => ?_)
    · skip
      exfalso; omega
    · skip
      refine v_iload_n X dJ8_newLength_cabcc_19 20 rfl 0 rfl ?_
      subst hQ; exact v_iret0 X hr hlk dJ8_newLength_cabcc_20 rfl
set_option maxHeartbeats 4000000 in
set_option maxRecDepth 20000 in
theorem c_J5_newCapacity_0f7a4 (l : Launch) (E : Nat → Nat → Nat) (b : Nat) (v : Nat) (N : Nat) (f : Int → Int) (ml : Int) (n : Int) (q : Int) (q0 : 0 ≤ q) (q1 : q < 1000) (N1 : N < 1000) : Rd l yJ5_newCapacity_0f7a4 cJ5_newCapacity_0f7a4 6 (some .int) 2 E [.ref b, .int (zI q)] ([(b, .inr (1, [.ref v, .int (zI 0), .int (zI ml), .int (zI n)]))] ++ [(v, .inl (E 102 2, N, .inl (zA f)))]) (some (.int (zI ((N : Int) + max (q - (N : Int)) ((N : Int) + 2))))) := by
  refine Rd.start (own := RJ5) rfl (by decide +kernel) (Nat.le_of_ble_eq_true rfl) ?_
  intro p e s m below meth cd args Q hQ X hr hlk hC hP
  have h_sa := PW.right hP
  have h_sb := (PW.left hP)
  refine v_aload_n X dJ5_newCapacity_0f7a4_0 1 rfl 0 rfl ?_
  refine v_getf X hC h_sb inJ4 0 rfl rfl 0 (by decide) kf_J5_15 (fun _ h => h) rfl dJ5_newCapacity_0f7a4_1 4 rfl ?_
  refine v_alen X hC h_sa 0 2 rfl rfl dJ5_newCapacity_0f7a4_4 5 rfl ?_
  refine v_istore_n X dJ5_newCapacity_0f7a4_5 6 rfl rfl (by decide) (L' := [(2, .int (zI (N : Int))), (0, .ref b), (1, .int (zI q))]) rfl ?_
  refine v_iload_n X dJ5_newCapacity_0f7a4_6 7 rfl 2 rfl ?_
  refine v_aload_n X dJ5_newCapacity_0f7a4_7 8 rfl 1 rfl ?_
  refine v_getf X hC h_sb inJ4 0 rfl rfl 1 (by decide) kf_J5_22 (fun _ h => h) rfl dJ5_newCapacity_0f7a4_8 11 rfl ?_
  show V p l e (rmL 2 0 0) s m args below meth cd Q 6 s.heap [] 0 0 11 [(2, .int (zI (N : Int))), (0, .ref b), (1, .int (zI q))] [.int (zI 0), .int (zI q)]
  refine v_ishl0 X dJ5_newCapacity_0f7a4_11 12 rfl ?_
  refine v_istore_n X dJ5_newCapacity_0f7a4_12 13 rfl rfl (by decide) (L' := [(3, .int (zI q)), (2, .int (zI (N : Int))), (0, .ref b), (1, .int (zI q))]) rfl ?_
  refine v_iload_n X dJ5_newCapacity_0f7a4_13 14 rfl 0 rfl ?_
  refine v_iload_n X dJ5_newCapacity_0f7a4_14 15 rfl 1 rfl ?_
  refine v_isub X dJ5_newCapacity_0f7a4_15 16 rfl ?_
  refine v_istore X dJ5_newCapacity_0f7a4_16 18 rfl (by decide) (L' := [(4, .int (zI (q - (N : Int)))), (3, .int (zI q)), (2, .int (zI (N : Int))), (0, .ref b), (1, .int (zI q))]) rfl ?_
  refine v_iload_n X dJ5_newCapacity_0f7a4_18 19 rfl 2 rfl ?_
  refine v_iload X dJ5_newCapacity_0f7a4_19 21 rfl 0 rfl ?_
  refine v_iload_n X dJ5_newCapacity_0f7a4_21 22 rfl 2 rfl ?_
  refine v_iconst X dJ5_newCapacity_0f7a4_22 23 rfl ?_
  refine v_aload_n X dJ5_newCapacity_0f7a4_23 24 rfl 3 rfl ?_
  refine v_getf X hC h_sb inJ4 0 rfl rfl 1 (by decide) kf_J5_22 (fun _ h => h) rfl dJ5_newCapacity_0f7a4_24 27 rfl ?_
  show V p l e (rmL 2 0 0) s m args below meth cd Q 6 s.heap [] 0 0 27 [(4, .int (zI (q - (N : Int)))), (3, .int (zI q)), (2, .int (zI (N : Int))), (0, .ref b), (1, .int (zI q))] [.int (zI 0), .int (zI 2), .int (zI (N : Int)), .int (zI (q - (N : Int))), .int (zI (N : Int))]
  refine v_ishl0 X dJ5_newCapacity_0f7a4_27 28 rfl ?_
  refine v_iadd X dJ5_newCapacity_0f7a4_28 29 rfl ?_
  refine v_rdS X hC (ws0 E s.heap) (c_J8_newLength_cabcc l E (N : Int) (q - (N : Int)) ((N : Int) + 2) (by omega) (by omega) (by omega) (by omega) (by omega) (by omega)) kvJ8_newLength_cabcc ksJ8_newLength_cabcc kl_J5_114 (As := [.int (zI (N : Int)), .int (zI (q - (N : Int))), .int (zI ((N : Int) + 2))]) rfl rfl rfl dJ5_newCapacity_0f7a4_29 32 rfl ?_
  show V p l e (rmL 2 0 0) s m args below meth cd Q 6 s.heap [] 0 0 32 [(4, .int (zI (q - (N : Int)))), (3, .int (zI q)), (2, .int (zI (N : Int))), (0, .ref b), (1, .int (zI q))] [.int (zI ((N : Int) + max (q - (N : Int)) ((N : Int) + 2)))]
  refine v_istore X dJ5_newCapacity_0f7a4_32 34 rfl (by decide) (L' := [(5, .int (zI ((N : Int) + max (q - (N : Int)) ((N : Int) + 2)))), (4, .int (zI (q - (N : Int)))), (3, .int (zI q)), (2, .int (zI (N : Int))), (0, .ref b), (1, .int (zI q))]) rfl ?_
  refine v_iload X dJ5_newCapacity_0f7a4_34 36 rfl 0 rfl ?_
  refine v_ldci X kcn_J5_39 (z := 2147483647) rfl dJ5_newCapacity_0f7a4_36 38 rfl ?_
  refine v_icmp_ne X (by omega) (by omega) dJ5_newCapacity_0f7a4_38 41 51 rfl (by decide) (fun c_1 => ?_) (fun c_1 => ?_)
  · skip
    refine v_iload X dJ5_newCapacity_0f7a4_51 53 rfl 0 rfl ?_
    refine v_aload_n X dJ5_newCapacity_0f7a4_53 54 rfl 4 rfl ?_
    refine v_getf X hC h_sb inJ4 0 rfl rfl 1 (by decide) kf_J5_22 (fun _ h => h) rfl dJ5_newCapacity_0f7a4_54 57 rfl ?_
    show V p l e (rmL 2 0 0) s m args below meth cd Q 6 s.heap [] 0 0 57 [(5, .int (zI ((N : Int) + max (q - (N : Int)) ((N : Int) + 2)))), (4, .int (zI (q - (N : Int)))), (3, .int (zI q)), (2, .int (zI (N : Int))), (0, .ref b), (1, .int (zI q))] [.int (zI 0), .int (zI ((N : Int) + max (q - (N : Int)) ((N : Int) + 2)))]
    refine v_ishr0 X dJ5_newCapacity_0f7a4_57 58 rfl ?_
    subst hQ; exact v_iret0 X hr hlk dJ5_newCapacity_0f7a4_58 rfl
  · skip
    exfalso; omega

