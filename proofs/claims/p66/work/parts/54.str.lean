/-! the law's text constants; Strings -/
def kwLen (q : Nat) : Int := ((kwL.getD q 0 : Nat) : Int)
def kwZ (q : Nat) (k : Int) : Int := ((kwB.getD q []).getD k.toNat 0).toInt
def kwT (q : Nat) : List Int := (kwB.getD q []).map Int32.toInt
theorem kwLen_b {q : Nat} (h : q < 13) : 0 ≤ kwLen q ∧ kwLen q ≤ 1 := by
  have key : ∀ j : Fin 13, 0 ≤ kwLen j ∧ kwLen j ≤ 1 := by decide +kernel
  exact key ⟨q, h⟩
theorem kwZ_b {q : Nat} (h : q < 13) (k : Int) : 0 ≤ kwZ q k ∧ kwZ q k < 128 := by
  have key : ∀ j : Fin 13, (0 ≤ ((kwB.getD j []).getD 0 0).toInt ∧ ((kwB.getD j []).getD 0 0).toInt < 128) ∧ (kwB.getD j []).length ≤ 1 := by decide +kernel
  obtain ⟨h1, h2⟩ := key ⟨q, h⟩
  unfold kwZ
  by_cases e : k.toNat = 0
  · rw [e]
    exact h1
  · have h3 : (kwB.getD q []).length ≤ k.toNat := by
      have h2 : (kwB.getD q []).length ≤ 1 := h2
      omega
    rw [List.getD_eq_getElem?_getD, List.getElem?_eq_none h3]
    decide
theorem kw_len {q : Nat} (h : q < 13) : kwLen q = ((kwT q).length : Int) := by
  have key : ∀ j : Fin 13, kwLen j = ((kwT j).length : Int) := by decide +kernel
  exact key ⟨q, h⟩
theorem kw_LT {q : Nat} (h : q < 13) : LT (kwZ q) (kwLen q) (kwT q) := by
  refine ⟨kw_len h, fun j hj => ?_⟩
  unfold kwT at hj ⊢
  unfold kwZ
  generalize kwB.getD q [] = l at hj ⊢
  rw [List.length_map] at hj
  rw [List.getElem?_map, List.getElem?_eq_getElem hj, List.getD_eq_getElem?_getD, show ((j : Int)).toNat = j by omega, List.getElem?_eq_getElem hj]
  rfl
/-- texts one behind the other -/
theorem LT.cat {f f1 g : Int → Int} {n m : Int} {T T2 : List Int} (h : LT f n T) (h1 : ∀ j : Int, 0 ≤ j ∧ j < n → f1 j = f j) (h2 : LT g m T2) (h3 : ∀ j : Int, 0 ≤ j ∧ j < m → f1 (n + j) = g j) : LT f1 (n + m) (T ++ T2) := by
  obtain ⟨e, h⟩ := h
  obtain ⟨e2, h2⟩ := h2
  refine ⟨by rw [e, e2, List.length_append]; simp, fun j hj => ?_⟩
  rw [List.length_append] at hj
  by_cases q : j < T.length
  · rw [List.getElem?_append_left q, h j q, h1 j ⟨by omega, by omega⟩]
  · rw [List.getElem?_append_right (by omega), h2 _ (by omega), ← h3 ((j - T.length : Nat) : Int) ⟨by omega, by omega⟩]
    congr 2
    omega
def cpD (g f : Int → Int) (dp z : Int) : Int → Int := fun i => if dp ≤ i ∧ i < dp + z then f (i - dp) else g i
theorem zA_cpyD {F : Nat → Int32} {f g : Int → Int} {dp z : Int} (h0 : 0 ≤ dp) (hz : 0 ≤ z) (hF : ∀ j : Nat, (j : Int) < z → F j = zI (f (j : Int))) : va_cpy F (zA g) 0 dp.toNat z.toNat = zA (cpD g f dp z) := by
  funext j
  unfold va_cpy zA cpD
  by_cases h : dp.toNat ≤ j ∧ j < dp.toNat + z.toNat
  · rw [if_pos h, if_pos (by omega), hF _ (by omega)]
    congr 2
    omega
  · rw [if_neg h, if_neg (by omega)]
theorem cpD_b {g f : Int → Int} {dp z : Int} (hg : ∀ j : Int, 0 ≤ g j ∧ g j < 128) (hf : ∀ j : Int, 0 ≤ f j ∧ f j < 128) : ∀ j : Int, 0 ≤ cpD g f dp z j ∧ cpD g f dp z j < 128 := by
  intro j
  have h1 := hg j
  have h2 := hf (j - dp)
  unfold cpD
  split <;> omega
theorem cpD_lo {g f : Int → Int} {dp z j : Int} (h : j < dp) : cpD g f dp z j = g j := if_neg (by omega)
theorem cpD_in {g f : Int → Int} {dp z j : Int} (h0 : 0 ≤ j) (h1 : j < z) : cpD g f dp z (dp + j) = f j := by
  unfold cpD
  rw [if_pos (by omega), show dp + j - dp = j by omega]
theorem dfJ0 : ∀ j, j < 4 → defaultValue (tyJ0 j) = vp_V [.null, .int 0, .int 0, .int 0] j := by
  intro j hj
  rcases (show j = 0 ∨ j = 1 ∨ j = 2 ∨ j = 3 by omega) with rfl | rfl | rfl | rfl <;> rfl
theorem ftJ0 : FT RJ0 TJ0 4 tyJ0 := ⟨inJ0, tyJ0_ok, nmJ0⟩
theorem kcl_m : Cond.sameMethod "[B" "java/lang/Object" "clone" "()Ljava/lang/Object;" ∈ WA := WA_of (i := 905) (by decide +kernel) (by decide +kernel)
theorem kcl_n : Cond.native ⟨"java/lang/Object", "clone", "()Ljava/lang/Object;"⟩ ∈ WA := WA_of (i := 906) (by decide +kernel) (by decide +kernel)
theorem kcl_i : Cond.instanceMethod ⟨"java/lang/Object", "clone", "()Ljava/lang/Object;"⟩ ∈ WA := WA_of (i := 907) (by decide +kernel) (by decide +kernel)
theorem kcl_s : Cond.selects "[B" ⟨"[B", "clone", "()Ljava/lang/Object;"⟩ ⟨"java/lang/Object", "clone", "()Ljava/lang/Object;"⟩ ∈ WA := WA_of (i := 908) (by decide +kernel) (by decide +kernel)
theorem kcl_c : Cond.castable "[B" "java/lang/Cloneable" ∈ WN := WN_of (i := 909) (by decide +kernel) (by decide +kernel)
section KW
variable {p : Program} {l : Launch} {e : Env} {R : Room} {s : State} {m : MethodId} {args : Array Value} {below : List Frame} {meth : Method} {c : Code} {Q : State → Prop} {nL : Nat} {H : Heap} {locs : List Loc} {k n : Nat} {pc : Nat} {L L' : List (Nat × Value)} {st : List Value} {cc : ByteArray} {own : String} {E : Nat → Nat → Nat}
theorem kw_S {q : Nat} (hC : Cx E s H) (hq : q < 13) : va_O "java/lang/String" (E 105 (35 + q)) (Az E) s H ∧ va_OF "java/lang/String" "coder" "B" (.int 0) (E 105 (35 + q)) (Az E) s H ∧ va_OF "java/lang/String" "value" "[B" (.ref (E 106 q)) (E 105 (35 + q)) (Az E) s H ∧ va_T .byte (E 106 q) (kwL.getD q 0) (fun j => .int ((kwB.getD q []).getD j 0)) (Az E) s H := hC.2.2.2.2.1.1.1 q hq
theorem v_kwg {index q : Nat} (X : CF p m c cc nL s args own) (hC : Cx E s H) (hq : q < 13) (hlink : Cond.fieldLink own index "java/lang/String" "value" "[B" ∈ WA) (hdg : decode cc pc = .ok (.getfield index, 3)) (pc' : Nat) (hp : pc + 3 = pc') (kk : V p l e R s m args below meth c Q nL H locs k n pc' L (.ref (E 106 q) :: st)) : V p l e R s m args below meth c Q nL H locs k n pc L (.ref (E 105 (35 + q)) :: st) := by
  subst hp
  intro ls hl
  obtain ⟨cf, k, fi, f, cell, h1, h2, h3, h4, h5, h6⟩ := (kw_S hC hq).2.2.1
  exact W.getf X.1 X.2.1 X.2.2.2.1 (X.2.2.2.2 _ hlink) h1 h2 h3 h4 h5 rfl rfl hdg (kk ls hl)
theorem v_kwc {index q : Nat} (X : CF p m c cc nL s args own) (hC : Cx E s H) (hq : q < 13) (hlink : Cond.fieldLink own index "java/lang/String" "coder" "B" ∈ WA) (hdg : decode cc pc = .ok (.getfield index, 3)) (pc' : Nat) (hp : pc + 3 = pc') (kk : V p l e R s m args below meth c Q nL H locs k n pc' L (.int (zI 0) :: st)) : V p l e R s m args below meth c Q nL H locs k n pc L (.ref (E 105 (35 + q)) :: st) := by
  subst hp
  intro ls hl
  obtain ⟨cf, k, fi, f, cell, h1, h2, h3, h4, h5, h6⟩ := (kw_S hC hq).2.1
  exact W.getf X.1 X.2.1 X.2.2.2.1 (X.2.2.2.2 _ hlink) h1 h2 h3 h4 h5 rfl rfl hdg (kk ls hl)
theorem v_kwl {q : Nat} (X : CF p m c cc nL s args own) (hC : Cx E s H) (hq : q < 13) (hdg : decode cc pc = .ok (.arraylength, 1)) (pc' : Nat) (hp : pc + 1 = pc') (kk : V p l e R s m args below meth c Q nL H locs k n pc' L (.int (zI (kwLen q)) :: st)) : V p l e R s m args below meth c Q nL H locs k n pc L (.ref (E 106 q) :: st) := by
  subst hp
  intro ls hl
  obtain ⟨cell, h1, h2, h3, h4, h5, h6, h7⟩ := (kw_S hC hq).2.2.2
  exact W.alen X.1 X.2.1 h1 h2 (h5.trans (zI_nat _)) rfl rfl hdg (kk ls hl)
theorem v_kws {index : Nat} (X : CF p m c cc nL s args own) (hC : Cx E s H) (i : Nat) {r : String × Nat × String} (hr : SR[i]? = some r) (ho : r.1 = own) (hi : r.2.1 = index) (hdg : decode cc pc = .ok (.ldc index, 2)) (pc' : Nat) (hp : pc + 2 = pc') (kk : V p l e R s m args below meth c Q nL H locs k n pc' L (.ref (E 105 i) :: st)) : V p l e R s m args below meth c Q nL H locs k n pc L st := by
  subst hp; subst ho; subst hi
  exact fun ls hl => va_ldcS X.1 X.2.1 X.2.2.2.1 (hC.2.2.2.2.1.2 i r hr) hdg (kk ls hl)
theorem v_bret0 {z' : Int} (X : CF p m c cc nL s args own) (hr : meth.sig.returnType = some .byte) (hlk : meth.locks = false) (hdg : decode cc pc = .ok (.ireturn, 1)) (hz : z' = 0) : V p l e R s m args below meth c (MQ below (Q0 (some (.int (zI z')))) args s k n (fun _ => False)) nL s.heap [] k n pc L [.int (zI 0)] := by
  subst hz
  exact fun ls hl => W.zret X.1 X.2.1 hr rfl (fun t ht hW => ⟨rfl, ht⟩) (fun _ h => by cases h) hdg hlk
variable {y y2 : MethodName} {cy : ByteArray} {my N Lc idx mc ms k' n' : Nat} {ry : Option FieldType} {wc : va_W} {w : Option Value} {q : Nat} {As st0 : List Value} {C : String} {b : Nat} {rs rs' : List (Nat × Nat)} {Pr : Heap → Prop} {Po : Option Value → Heap → Prop}
/-- a method of a text constant -/
theorem v_rdK (X : CF p m c cc nL s args own) (hC : Cx E s H) (hq : q < 13) (hM : Rd l y cy my ry Lc E (.ref (E 105 (35 + q)) :: As) [] w) (hk : KV y cy my ry N) (hi : KI y) (hy : y.cls = "java/lang/String") (hl : Cond.methodLink own idx y ∈ WA) (hst : st0 = As.reverse ++ .ref (E 105 (35 + q)) :: st) (hn : As.length = N)
    (hR : (Nat.ble (Lc + 1) R.frames && Nat.ble (8 + (my + 11) + 60 * Lc) R.locals && Nat.ble k R.cells && Nat.ble n R.slots && Nat.ble (st.map fun v => v.category).sum 8) = true) (hdg : decode cc pc = .ok (.invokevirtual idx, 3)) (pc' : Nat) (hp : pc + 3 = pc')
    (kk : V p l e R s m args below meth c Q nL H locs k n pc' L (w.toList ++ st)) : V p l e R s m args below meth c Q nL H locs k n pc L st0 := by
  subst hp
  obtain ⟨r1, r2, r3⟩ := room_ok hR
  intro ls hls
  have cw : CallW R s args own y.cls idx y cy my ry (.code y cy my ry :: WA) (rmL Lc 0 0) 0 0 N := ⟨kv_callB X hk hl rfl rfl r1, X.2.2.2.2 _ hi.1, X.2.2.2.2 _ hi.2⟩
  refine rd_call (va_runV (As := As) (rest := st) X hM cw ⟨P0_blind, ?_, fun U hU hW => ⟨rfl, by rw [hU]; exact hC.warm hW, by rw [hU]; exact ws0 E H⟩⟩ rfl hn hls.1 hst (lv_room r3) hdg r2) (kk ls hls)
  obtain ⟨cell, h1, h2, h3, -⟩ := (kw_S hC hq).1
  exact ⟨cell, h1, h2, by rw [hy]; exact h3⟩
theorem v_muK (X : CF p m c cc nL s args own) (hM : MS E rs s H locs) (hq : q < 13) (hc1 : Mu l y cy my ry Lc mc ms E rs' (.ref (E 105 (35 + q)) :: As) Pr Po) (hk : KV y cy my ry N) (hi : KI y) (hy : y.cls = "java/lang/String") (hl : Cond.methodLink own idx y ∈ WA) (hst : st0 = As.reverse ++ .ref (E 105 (35 + q)) :: st) (hn : As.length = N)
    (hR : (Nat.ble (Lc + 1) R.frames && Nat.ble (8 + (my + 11) + 60 * Lc) R.locals && Nat.ble (k + mc) R.cells && Nat.ble (n + ms) R.slots && Nat.ble (st.map fun v => v.category).sum 8) = true) (hdg : decode cc pc = .ok (.invokevirtual idx, 3)) (pc' : Nat) (hp : pc + 3 = pc') (hk' : k + mc = k') (hn' : n + ms = n') (hs : ∀ q, Fs rs' q → Fr rs s.heap.size q) (hpr : Pr H)
    (kk : ∀ (v : Option Value) (H1 : Heap) (locs1 : List Loc), MS E rs s H1 locs1 → Fm rs' H H1 → Po v H1 → V p l e R s m args below meth c Q nL H1 locs1 k' n' pc' L (v.toList ++ st)) : V p l e R s m args below meth c Q nL H locs k n pc L st0 := by
  subst hp; subst hk'; subst hn'
  obtain ⟨r1, r2, r3⟩ := room_okM hR
  intro ls hls
  have cw : CallW R s args own y.cls idx y cy my ry (.code y cy my ry :: WA) (rmL Lc mc ms) mc ms N := ⟨kv_callB X hk hl rfl rfl r1, X.2.2.2.2 _ hi.1, X.2.2.2.2 _ hi.2⟩
  refine mu_call (va_runV (As := As) (rest := st) X (hc1 H.size) cw ⟨Pm_blind, ?_, fun U hU hW => ⟨rfl, by rw [hU]; exact hM.C.warm hW, by rw [hU], fun q z => hM.z (hs q z), by rw [hU]; exact hpr⟩⟩ rfl hn hls.1 hst (lv_room r3) hdg r2) hM hs (fun v H1 locs1 a b c => kk v H1 locs1 a b c ls hls)
  obtain ⟨cell, h1, h2, h3, -⟩ := (kw_S hM.C hq).1
  exact ⟨cell, h1, h2, by rw [hy]; exact h3⟩
/-- super's name, the object's own method -/
theorem kv_callU2 {rm : Room} {cy2 : ByteArray} {my2 : Nat} {ry2 : Option FieldType} (X : CF p m c cc nL s args own) (hk : KV y cy my ry N) (hk2 : KV y2 cy2 my2 ry2 N) (hi2 : Cond.instanceMethod y2 ∈ WA) (hl : Cond.methodLink own idx y2 ∈ WA) (hsm : Cond.sameMethod y2.cls y2.cls y2.name y2.desc ∈ WA) (hsel : Cond.selects C y2 y ∈ WA) (hi : Cond.instanceMethod y ∈ WA) (hrc : rm.cells = mc) (hrs : rm.slots = ms) (hR : rm.frames + 1 ≤ R.frames ∧ 8 + (my + 11) + rm.locals ≤ R.locals) : va_CU R s args own C y2.cls idx y2 y cy my ry (.code y cy my ry :: WA) rm mc ms N := by
  have ht : ∀ w ∈ (.code y cy my ry :: WA : List Cond), w.before args s = true := fun w hw => (List.mem_cons.mp hw).elim (fun q => by rw [q]; exact X.2.2.2.2 _ hk.1) (X.2.2.2.2 w)
  have hG : GoodIn (.code y cy my ry :: WA) (.code y cy my ry :: WA) := WA_code hk.1
  refine ⟨⟨hrc, hrs, hR.1, hR.2, pay_in ht hG, List.mem_cons_self⟩, ht _ List.mem_cons_self, X.2.2.2.2 _ hk.2.1, ⟨hk2.2.2.1, hk2.2.2.2.1⟩, fun sig h => ?_, X.2.2.2.2 _ hl, X.2.2.2.2 _ hsm, va_Decl.of (X.2.2.2.2 _ hi2) (X.2.2.2.2 _ hk2.1), X.2.2.2.2 _ hsel, X.2.2.2.2 _ hi⟩
  have h2 := hk2.2.2.2.2
  rw [h] at h2
  exact (Option.some.inj h2).symm
theorem v_rdU2 {cy2 : ByteArray} {my2 : Nat} {ry2 : Option FieldType} (hsel : Cond.selects C y2 y ∈ WA) (X : CF p m c cc nL s args own) (hC : Cx E s H) (hP : PW E wc H) (hM : Rd l y cy my ry Lc E (.ref b :: As) wc w) (hk : KV y cy my ry N) (hi : Cond.instanceMethod y ∈ WA) (hk2 : KV y2 cy2 my2 ry2 N) (hi2 : Cond.instanceMethod y2 ∈ WA) (hsm : Cond.sameMethod y2.cls y2.cls y2.name y2.desc ∈ WA) (hl : Cond.methodLink own idx y2 ∈ WA) {ci Nf : Nat} {T : u_T} {fs : List Value} (he : wc[0]? = some (b, .inr (ci, fs))) (hc : vwCl[ci]? = some (C, T, Nf)) (hst : st0 = As.reverse ++ .ref b :: st) (hn : As.length = N)
    (hR : (Nat.ble (Lc + 1) R.frames && Nat.ble (8 + (my + 11) + 60 * Lc) R.locals && Nat.ble k R.cells && Nat.ble n R.slots && Nat.ble (st.map fun v => v.category).sum 8) = true) (hdg : decode cc pc = .ok (.invokevirtual idx, 3)) (pc' : Nat) (hp : pc + 3 = pc')
    (kk : V p l e R s m args below meth c Q nL H locs k n pc' L (w.toList ++ st)) : V p l e R s m args below meth c Q nL H locs k n pc L st0 := by
  subst hp
  obtain ⟨r1, r2, r3⟩ := room_ok hR
  intro ls hls
  exact rd_call (va_runU (As := As) (rest := st) X hM (kv_callU2 (rm := rmL Lc 0 0) X hk hk2 hi2 hl hsm hsel hi rfl rfl r1) ⟨P0_blind, va_recv (q := (C, T, Nf)) hC.K hP hc he, fun U hU hW => ⟨rfl, by rw [hU]; exact hC.warm hW, by rw [hU]; exact hP⟩⟩ rfl hn hls.1 hst (lv_room r3) hdg r2) (kk ls hls)
theorem v_aretR {v : Nat} {rt : FieldType} (X : CF p m c cc nL s args own) (hr : meth.sig.returnType = some rt) (hrt : (∃ n, rt = .object n) ∨ ∃ t, rt = .array t) (hlk : meth.locks = false) (hdg : decode cc pc = .ok (.areturn, 1)) : V p l e R s m args below meth c (MQ below (Q0 (some (.ref v))) args s k n (fun _ => False)) nL s.heap [] k n pc L [.ref v] := v_aret0 X hr hrt hlk hdg (Or.inr ⟨_, rfl⟩)
/-- a part of a row is copied to a place in another -/
theorem v_copyD {a a0 t0 q0 q1 : Nat} {ws0 ws : va_W} (X : CF p m c cc nL s args own) (hM : MS E rs s H locs) (hP0 : PW E ws0 H) (hP : PR E b ws H) {ty : FieldType} (ht : (tysA E)[t0]? = some (E 102 t0, ty)) (hprim : refKind ty = false) {N0 N1 : Nat} {f g : Int → Int} (he0 : ws0[q0]? = some (a0, .inl (E 102 t0, N0, .inl (zA f)))) (he : ws[q1]? = some (a, .inl (E 102 t0, N1, .inl (zA g)))) {z dp : Int} (hz0 : 0 ≤ z) (hz1 : z ≤ N0) (hd0 : 0 ≤ dp) (hz2 : dp + z ≤ N1) (hN0 : N0 < 2147483648) (hN : N1 < 2147483648) (hfit : ∀ i : Int, 0 ≤ i → i < z → fits ty (.int (zI (f i))) = true)
    (hin : Fr rs s.heap.size a) (hl : Cond.methodLink own idx arraycopyName ∈ WA) (hR : (Nat.ble 1 R.frames && Nat.ble 60 R.locals && Nat.ble (st.map fun v => v.category).sum 8) = true) (hdg : decode cc pc = .ok (.invokestatic idx, 3)) (pc' : Nat) (hp : pc + 3 = pc') {ws' : va_W} (hw : ws.set q1 (a, .inl (E 102 t0, N1, .inl (zA (cpD g f dp z)))) = ws')
    (kk : ∀ (H1 : Heap) (locs1 : List Loc), H1.size = H.size → MS E rs s H1 locs1 → Fm [(a, 1)] H H1 → PR E b ws' H1 → V p l e R s m args below meth c Q nL H1 locs1 k n pc' L st) : V p l e R s m args below meth c Q nL H locs k n pc L (.int (zI z) :: .int (zI dp) :: .ref a :: .int (zI 0) :: .ref a0 :: st) := by
  subst hp; subst hw
  simp only [Bool.and_eq_true] at hR
  have r1 := Nat.le_of_ble_eq_true hR.1.1
  have r2 := Nat.le_of_ble_eq_true hR.1.2
  have r3 := Nat.le_of_ble_eq_true hR.2
  have ez : (zI z).toInt = z := zI_toInt (by omega)
  have ec : (zI z).toNatClampNeg = z.toNat := zI_clamp hz0 (by omega)
  have ed : (zI dp).toInt = dp := zI_toInt (by omega)
  have edc : (zI dp).toNatClampNeg = dp.toNat := zI_clamp hd0 (by omega)
  have e0 : (zI 0).toNatClampNeg = 0 := rfl
  have e00 : (zI 0).toInt = 0 := rfl
  intro ls hls T hT X0
  have hc0 : H[a0]? = some (vp_cell (E 102 t0) (N0, .inl (zA f))) := hP0 q0 _ he0
  have hc1 : H[a]? = some (vp_cell (E 102 t0) (N1, .inl (zA g))) := hP.1 q1 _ he
  obtain ⟨-, k0, hk0, cm0, hkk0⟩ := (hM.C.K.2 t0 _ ht).1 N0 (fun j => .int (zA f j))
  obtain ⟨-, k1, hk1, cm1, hkk1⟩ := (hM.C.K.2 t0 _ ht).1 N1 (fun j => .int (zA g j))
  obtain ⟨vm', X', step⟩ := X0.arraycopy X.1 X.2.2.2.1 (X.2.2.2.2 _ hl) (X.2.2.2.2 _ kcp_n) (X.2.2.2.2 _ kcp_s) (X.2.2.2.2 _ kcp_i) (src := a0) (dst := a) (cs := vp_cell (E 102 t0) (N0, .inl (zA f))) (cd := vp_cell (E 102 t0) (N1, .inl (zA g))) (srcPos := zI 0) (destPos := zI dp) (n := zI z) (by rw [hT]; exact hc0) (by rw [hT]; exact hc1)
    (fun _ h => by cases h) (fun _ h => by cases h) (fun h => by cases h) (fun h => by cases h) hk0 hk1 hkk0 hkk1 (by simp [hprim]) (by decide) (by rw [zI_0, zI_lt (by omega) (by omega)]; omega) (by rw [zI_0, zI_lt (by omega) (by omega)]; omega)
    (by rw [e00, ez]; show ¬ _ > ((arrV _ N0 (fun j => .int (zA f j))).slots.size : Int); rw [arrV_size]; omega)
    (by rw [ed, ez]; show ¬ _ > ((arrV _ N1 (fun j => .int (zA g j))).slots.size : Int); rw [arrV_size]; omega)
    (fun vm₁ _ i hi => by
      rw [ec] at hi
      have e : (vp_cell (E 102 t0) (N0, .inl (zA f))).slots.getD ((zI 0).toNatClampNeg + i) .null = .int (zI (f i)) := by
        rw [e0, Nat.zero_add]
        show (arrV _ N0 (fun j => .int (zA f j))).slots.getD _ _ = _
        rw [Array.getD_eq_getD_getElem?, arrV_read _ _ (by omega)]
        rfl
      refine ⟨?_, ?_⟩
      · rw [e]
        exact hfit i (by omega) (by omega)
      · rw [e]
        exact trivial)
    (g := F0 m pc ls (.int (zI z) :: .int (zI dp) :: .ref a :: .int (zI 0) :: .ref a0 :: st)) rfl (by rw [X.2.2.1]; exact hls.1) (rest := st) rfl (by rw [X.2.1]; exact hdg) r1 (by
      show 2 * 0 + _ + (nativeFrameWords "java/lang/System" "arraycopy" 5 + 11) ≤ _
      have : nativeFrameWords "java/lang/System" "arraycopy" 5 ≤ 20 := by decide
      omega)
  have e1 : copied (vp_cell (E 102 t0) (N0, .inl (zA f))) (vp_cell (E 102 t0) (N1, .inl (zA g))) (zI 0) (zI dp) (zI z) = vp_cell (E 102 t0) (N1, .inl (va_cpy (zA f) (zA g) (zI 0).toNatClampNeg (zI dp).toNatClampNeg (zI z).toNatClampNeg)) := va_copied (fun z => .int z) (E 102 t0) (E 102 t0) (zA f) (zA g) (by rw [e0, ec]; omega)
  rw [e0, edc, ec, zA_cpyD (F := zA f) (f := f) hd0 hz0 (fun _ _ => rfl)] at e1
  rw [e1] at X' step
  have hl1 : a < H.size := (Array.getElem?_eq_some_iff.mp hc1).1
  have hheap : ((T.setVm vm').setCell a (vp_cell (E 102 t0) (N1, .inl (zA (cpD g f dp z))))).heap = H.setIfInBounds a (vp_cell (E 102 t0) (N1, .inl (zA (cpD g f dp z)))) := by rw [← hT]; rfl
  have oq : ∀ q : Nat, q ≠ a → (H.setIfInBounds a (vp_cell (E 102 t0) (N1, .inl (zA (cpD g f dp z)))))[q]? = H[q]? := fun q hq => by simp [Array.getElem?_setIfInBounds, Ne.symm hq]
  have hsz : (H.setIfInBounds a (vp_cell (E 102 t0) (N1, .inl (zA (cpD g f dp z))))).size = H.size := by simp
  have hF : Fm [(a, 1)] H (H.setIfInBounds a (vp_cell (E 102 t0) (N1, .inl (zA (cpD g f dp z))))) := cell1 hsz oq
  obtain ⟨t, a1, b1⟩ := kk _ _ hsz (hM.mut hF (fun q hq => by rw [hq.one]; exact hin) (fun q hq => by
    obtain ⟨w, -, hw⟩ := List.mem_map.mp hq
    rw [← hw]
    exact Or.inl Fs.self)) hF (hP.set he (show (H.setIfInBounds a _)[a]? = some _ by simp [Array.getElem?_setIfInBounds, hl1]) oq) ls hls _ hheap X'
  exact ⟨t, step t a1, b1⟩
/-- a text constant's bytes are copied -/
theorem v_copyK {a q1 : Nat} {ws : va_W} (X : CF p m c cc nL s args own) (hM : MS E rs s H locs) (hq : q < 13) (hP : PR E b ws H) {N1 : Nat} {g : Int → Int} (he : ws[q1]? = some (a, .inl (E 102 2, N1, .inl (zA g)))) {dp : Int} (hd0 : 0 ≤ dp) (hz2 : dp + kwLen q ≤ N1) (hN : N1 < 2147483648)
    (hin : Fr rs s.heap.size a) (hl : Cond.methodLink own idx arraycopyName ∈ WA) (hR : (Nat.ble 1 R.frames && Nat.ble 60 R.locals && Nat.ble (st.map fun v => v.category).sum 8) = true) (hdg : decode cc pc = .ok (.invokestatic idx, 3)) (pc' : Nat) (hp : pc + 3 = pc') {ws' : va_W} (hw : ws.set q1 (a, .inl (E 102 2, N1, .inl (zA (cpD g (kwZ q) dp (kwLen q))))) = ws')
    (kk : ∀ (H1 : Heap) (locs1 : List Loc), H1.size = H.size → MS E rs s H1 locs1 → Fm [(a, 1)] H H1 → PR E b ws' H1 → V p l e R s m args below meth c Q nL H1 locs1 k n pc' L st) : V p l e R s m args below meth c Q nL H locs k n pc L (.int (zI (kwLen q)) :: .int (zI dp) :: .ref a :: .int (zI 0) :: .ref (E 106 q) :: st) := by
  subst hp; subst hw
  simp only [Bool.and_eq_true] at hR
  have r1 := Nat.le_of_ble_eq_true hR.1.1
  have r2 := Nat.le_of_ble_eq_true hR.1.2
  have r3 := Nat.le_of_ble_eq_true hR.2
  have hkb := kwLen_b hq
  obtain ⟨z, hz⟩ : ∃ z, kwLen q = z := ⟨_, rfl⟩
  rw [hz] at hkb hz2 kk ⊢
  have ez : (zI z).toInt = z := zI_toInt (by omega)
  have ec : (zI z).toNatClampNeg = z.toNat := zI_clamp hkb.1 (by omega)
  have ed : (zI dp).toInt = dp := zI_toInt (by omega)
  have edc : (zI dp).toNatClampNeg = dp.toNat := zI_clamp hd0 (by omega)
  have e0 : (zI 0).toNatClampNeg = 0 := rfl
  have e00 : (zI 0).toInt = 0 := rfl
  intro ls hls T hT X0
  obtain ⟨scr, hs1, hs2, hs3, hs4, -, hs5, -⟩ := (kw_S hM.C hq).2.2.2
  have hzl : z.toNat = kwL.getD q 0 := by rw [← hz]; unfold kwLen; omega
  have hc1 : H[a]? = some (vp_cell (E 102 2) (N1, .inl (zA g))) := hP.1 q1 _ he
  obtain ⟨hs6, k0, hk0, cm0, hkk0⟩ := hs2
  obtain ⟨-, k1, hk1, cm1, hkk1⟩ := (hM.C.K.2 2 _ rfl).1 N1 (fun j => .int (zA g j))
  have hF8 : ∀ j : Nat, (j : Int) < z → (kwB.getD q []).getD j 0 = zI (kwZ q (j : Int)) := fun j _ => by
    unfold kwZ
    rw [show ((j : Int)).toNat = j by omega, zI_asI]
  obtain ⟨vm', X', step⟩ := X0.arraycopy X.1 X.2.2.2.1 (X.2.2.2.2 _ hl) (X.2.2.2.2 _ kcp_n) (X.2.2.2.2 _ kcp_s) (X.2.2.2.2 _ kcp_i) (src := E 106 q) (dst := a) (cs := scr) (cd := vp_cell (E 102 2) (N1, .inl (zA g))) (srcPos := zI 0) (destPos := zI dp) (n := zI z) (by rw [hT]; exact hs1) (by rw [hT]; exact hc1)
    hs6 (fun _ h => by cases h) hs3 (fun h => by cases h) hk0 hk1 hkk0 hkk1 (by simp [refKind]) (by decide) (by rw [zI_0, zI_lt (by omega) (by omega)]; omega) (by rw [zI_0, zI_lt (by omega) (by omega)]; omega)
    (by rw [e00, ez]; omega)
    (by rw [ed, ez]; show ¬ _ > ((arrV _ N1 (fun j => .int (zA g j))).slots.size : Int); rw [arrV_size]; omega)
    (fun vm₁ _ i hi => by
      rw [ec] at hi
      have e : scr.slots.getD ((zI 0).toNatClampNeg + i) .null = .int (zI (kwZ q (i : Int))) := by
        rw [e0, Nat.zero_add, Array.getD_eq_getD_getElem?, hs5 _ (by omega), ← hF8 i (by omega)]
        rfl
      refine ⟨?_, ?_⟩
      · rw [e]
        exact lat_fb (kwZ_b hq _)
      · rw [e]
        exact trivial)
    (g := F0 m pc ls (.int (zI z) :: .int (zI dp) :: .ref a :: .int (zI 0) :: .ref (E 106 q) :: st)) rfl (by rw [X.2.2.1]; exact hls.1) (rest := st) rfl (by rw [X.2.1]; exact hdg) r1 (by
      show 2 * 0 + _ + (nativeFrameWords "java/lang/System" "arraycopy" 5 + 11) ≤ _
      have : nativeFrameWords "java/lang/System" "arraycopy" 5 ≤ 20 := by decide
      omega)
  have e1 : copied scr (vp_cell (E 102 2) (N1, .inl (zA g))) (zI 0) (zI dp) (zI z) = vp_cell (E 102 2) (N1, .inl (va_cpy (fun j => (kwB.getD q []).getD j 0) (zA g) (zI 0).toNatClampNeg (zI dp).toNatClampNeg (zI z).toNatClampNeg)) := va_copiedX (fun z => .int z) scr (E 102 2) (n0 := kwL.getD q 0) (fun j => (kwB.getD q []).getD j 0) (zA g) hs5 (by rw [e0, ec]; omega)
  rw [e0, edc, ec, zA_cpyD hd0 hkb.1 hF8] at e1
  rw [e1] at X' step
  have hl1 : a < H.size := (Array.getElem?_eq_some_iff.mp hc1).1
  have hheap : ((T.setVm vm').setCell a (vp_cell (E 102 2) (N1, .inl (zA (cpD g (kwZ q) dp z))))).heap = H.setIfInBounds a (vp_cell (E 102 2) (N1, .inl (zA (cpD g (kwZ q) dp z)))) := by rw [← hT]; rfl
  have oq : ∀ w : Nat, w ≠ a → (H.setIfInBounds a (vp_cell (E 102 2) (N1, .inl (zA (cpD g (kwZ q) dp z)))))[w]? = H[w]? := fun w hw => by simp [Array.getElem?_setIfInBounds, Ne.symm hw]
  have hsz : (H.setIfInBounds a (vp_cell (E 102 2) (N1, .inl (zA (cpD g (kwZ q) dp z))))).size = H.size := by simp
  have hF : Fm [(a, 1)] H (H.setIfInBounds a (vp_cell (E 102 2) (N1, .inl (zA (cpD g (kwZ q) dp z))))) := cell1 hsz oq
  obtain ⟨t, a1, b1⟩ := kk _ _ hsz (hM.mut hF (fun q hq => by rw [hq.one]; exact hin) (fun q hq => by
    obtain ⟨w, -, hw⟩ := List.mem_map.mp hq
    rw [← hw]
    exact Or.inl Fs.self)) hF (hP.set he (show (H.setIfInBounds a _)[a]? = some _ by simp [Array.getElem?_setIfInBounds, hl1]) oq) ls hls _ hheap X'
  exact ⟨t, step t a1, b1⟩
/-- a row of bytes is cloned -/
theorem v_clone {a q0 N1 : Nat} {ws : va_W} {g : Int → Int} (X : CF p m c cc nL s args own) (hM : MS E rs s H locs) (hP : PW E ws H) (he : ws[q0]? = some (a, .inl (E 102 2, N1, .inl (zA g)))) (hg : ∀ j : Int, 0 ≤ g j ∧ g j < 128) (hl : Cond.methodLink own idx ⟨"[B", "clone", "()Ljava/lang/Object;"⟩ ∈ WA) (hR : (Nat.ble 1 R.frames && Nat.ble 40 R.locals && Nat.ble (st.map fun v => v.category).sum 8) = true) (hcells : k + 1 ≤ R.cells ∧ n + N1 ≤ R.slots) (hdg : decode cc pc = .ok (.invokevirtual idx, 3)) (pc' : Nat) (hp : pc + 3 = pc') {k' n' : Nat} (hk' : k + 1 = k') (hn' : n + N1 = n')
    (kk : ∀ (o : Nat) (H1 : Heap), o = H.size → H1.size = o + 1 → MS E rs s H1 locs → Fm [] H H1 → PR E o [(o, .inl (E 102 2, N1, .inl (zA g)))] H1 → V p l e R s m args below meth c Q nL H1 locs k' n' pc' L (.ref o :: st)) : V p l e R s m args below meth c Q nL H locs k n pc L (.ref a :: st) := by
  subst hp; subst hk'; subst hn'
  simp only [Bool.and_eq_true] at hR
  have r1 := Nat.le_of_ble_eq_true hR.1.1
  have r2 := Nat.le_of_ble_eq_true hR.1.2
  have r3 := Nat.le_of_ble_eq_true hR.2
  intro ls hls T hT X0
  obtain ⟨hArr, hnm⟩ := hM.C.K.2 2 _ rfl
  obtain ⟨c0, t0', f1, f2, f3⟩ := Cond.castable_spec (hM.C.nest kcl_c (args := args))
  have hnm : s.vm.findClass "[B" = some (E 102 2) := hnm
  cases hnm.symm.trans f1
  have hsz : (vp_cell (E 102 2) (N1, .inl (zA g))).slots.size = N1 := arrV_size _ _ _
  have hcellE : ({ cls := (vp_cell (E 102 2) (N1, .inl (zA g))).cls, slots := (vp_cell (E 102 2) (N1, .inl (zA g))).slots } : Cell) = vp_cell (E 102 2) (N1, .inl (zA g)) := rfl
  have hcellT : T.heap[a]? = some (vp_cell (E 102 2) (N1, .inl (zA g))) := by rw [hT]; exact hP q0 _ he
  obtain ⟨-, kA, hkA, comp, hkind⟩ := State.isArrayOf_alike X0.warmed.alike (hArr 0 (fun _ => .null))
  obtain ⟨-, kS, hkS, compS, hkindS⟩ := hArr 0 (fun _ => .null)
  obtain ⟨vm', X', st'⟩ := X0.cloneArray X.1 X.2.2.2.1 (X.2.2.2.2 _ hl) (X.2.2.2.2 _ kcl_m) (X.2.2.2.2 _ kcl_n) (X.2.2.2.2 _ kcl_i) (X.2.2.2.2 _ kcl_s) (a := a) (cell := vp_cell (E 102 2) (N1, .inl (zA g))) hcellT (fun k h => by cases h) (fun h => by cases h) hnm f2 f3
    (fun i v hv => by
      have hk' : T.vm.classes[(vp_cell (E 102 2) (N1, .inl (zA g))).cls]? = some kA := hkA
      have hfit : fits .byte v = true := by
        have hi : i < N1 := by
          have := (Array.getElem?_eq_some_iff.mp hv).1
          rw [hsz] at this
          exact this
        have hv2 : (arrV (E 102 2) N1 (fun j => .int (zA g j))).slots[i]? = some v := hv
        rw [arrV_read _ _ hi] at hv2
        cases hv2
        exact lat_fb (hg _)
      simpa [State.fitsSlot, State.slotType?, hk', hkind] using hfit)
    (g := F0 m pc ls (.ref a :: st)) rfl (by rw [X.2.2.1]; exact hls.1) rfl (by rw [X.2.1]; exact hdg) r1 (by show 2 * 0 + _ + 14 ≤ _; omega) hcells.1 (by rw [hsz]; exact hcells.2) (hloader := Vm.clonesLoader_of_array hkS hkindS)
  rw [hcellE, hsz] at X'
  generalize hH1 : H.push (vp_cell (E 102 2) (N1, .inl (zA g))) = H1
  have z1 : H1.size = H.size + 1 := by rw [← hH1, Array.size_push]
  have e1 : H1[H.size]? = some (vp_cell (E 102 2) (N1, .inl (zA g))) := by rw [← hH1, Array.getElem?_push_size]
  have o1 : ∀ q : Nat, q < H.size → H1[q]? = H[q]? := fun q hq => by rw [← hH1, Array.getElem?_push, if_neg (Nat.ne_of_lt hq)]
  have hF : Fm [] H H1 := cell0 rfl z1 o1
  have hM1 := hM.mut (L := []) hF (fun q hq => hq.elim) (fun q hq => by cases hq)
  rw [List.append_nil] at hM1
  obtain ⟨t, b1, b2⟩ := kk H.size H1 rfl z1 hM1 hF ⟨fun j x hx => by
      have hz : j < 1 := (List.getElem?_eq_some_iff.mp hx).1
      rw [show j = 0 by omega] at hx
      cases hx
      exact e1, fun j x hx => by
      have hz : j < 1 := (List.getElem?_eq_some_iff.mp hx).1
      rw [show j = 0 by omega] at hx
      cases hx
      exact (by omega : H.size = H.size + j)⟩ ls hls ((T.setVm vm').pushCell (vp_cell (E 102 2) (N1, .inl (zA g)))) (by rw [← hH1, ← hT]; rfl) X'
  refine ⟨t, st' t ?_, b2⟩
  rw [hcellE, hT]
  exact b1
theorem v_castB {a q0 N1 index : Nat} {ws : va_W} {g : Int → Int} (X : CF p m c cc nL s args own) (hC : Cx E s H) (hP : PW E ws H) (he : ws[q0]? = some (a, .inl (E 102 2, N1, .inl (zA g)))) (hlink : Cond.classLink own index "[B" ∈ WA) (hdg : decode cc pc = .ok (.checkcast index, 3)) (pc' : Nat) (hp : pc + 3 = pc') (kk : V p l e R s m args below meth c Q nL H locs k n pc' L (.ref a :: st)) : V p l e R s m args below meth c Q nL H locs k n pc L (.ref a :: st) := by
  subst hp
  obtain ⟨hArr, hnm⟩ := hC.K.2 2 _ rfl
  exact fun ls hl => va_castA X.1 X.2.1 X.2.2.2.1 (X.2.2.2.2 _ hlink) hP q0 he hnm hdg (kk ls hl)
end KW
