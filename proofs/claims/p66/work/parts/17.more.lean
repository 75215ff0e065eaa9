theorem kobj_i : Cond.instanceMethod Lib.objectInit ∈ WA := WA_of (i := 72) (by decide +kernel) (by decide +kernel)
theorem kobj_c : Cond.code Lib.objectInit ⟨#[0xb1]⟩ 1 none ∈ WA := WA_of (i := 73) (by decide +kernel) (by decide +kernel)
theorem PW.part {E : Nat → Nat → Nat} {ws wc : va_W} {H : Heap} (h : PW E ws H) (i n : Nat) (hs : (ws.drop i).take n = wc) : PW E wc H := by
  subst hs
  intro k q hk
  rw [List.getElem?_take] at hk
  split at hk
  · rw [List.getElem?_drop] at hk
    exact h (i + k) q hk
  · cases hk
theorem PW.app {E : Nat → Nat → Nat} {a b : va_W} {H : Heap} (h : PW E a H) (h2 : PW E b H) : PW E (a ++ b) H := va_P.app h h2
theorem PW.left {E : Nat → Nat → Nat} {a b : va_W} {H : Heap} (h : PW E (a ++ b) H) : PW E a H := fun k q hk => h k q (by
  rw [List.getElem?_append_left (List.getElem?_eq_some_iff.mp hk).1]; exact hk)
theorem PW.right {E : Nat → Nat → Nat} {a b : va_W} {H : Heap} (h : PW E (a ++ b) H) : PW E b H := fun k q hk => h (a.length + k) q (by
  rw [List.getElem?_append_right (Nat.le_add_right _ _)]
  rw [show a.length + k - a.length = k by omega]; exact hk)
theorem Fr1 {rs : List (Nat × Nat)} {sz a : Nat} (h : ∀ q, Fs [(a, 1)] q → Fr rs sz q) : Fr rs sz a := h a Fs.self
theorem Fm.one {rs : List (Nat × Nat)} {b n : Nat} {H H1 : Heap} (h : Fm rs H H1) (hs : ∀ q, Fs rs q → Fs [(b, n)] q) : Fm [(b, n)] H H1 := h.wide hs
theorem bz_01 {φ : Prop} [Decidable φ] : bz φ = 0 ∨ bz φ = 1 := by have := bz_rg (φ := φ); omega
theorem sv {a b : Int} (h : b = a) : some (Value.int (zI a)) = some (Value.int (zI b)) := by rw [h]
theorem zI_char {x : Int} (h : 0 ≤ x ∧ x < 65536) : vp_nar .char (zI x) = zI x := by
  show (_ : Int32) = _
  have e : narrow .char (.int (zI x)) = .int (zI x) := by
    show Value.int _ = _
    congr 1
    rw [← Int32.toInt_inj]
    have h1 : (zI x).toInt = x := zI_toInt (by omega)
    have h2 : (zI x).toUInt32.toNat = x.toNat := by
      have h3 : (zI x).toBitVec.toInt = x := h1
      have h4 : (zI x).toUInt32.toNat = (zI x).toBitVec.toNat := rfl
      rw [h4]
      rw [BitVec.toInt_eq_toNat_cond] at h3
      have h5 := (zI x).toBitVec.isLt
      split at h3 <;> omega
    first
      | (rw [h1]; show ((zI x).toUInt32 % 65536).toInt32.toInt = x
         have h6 : ((zI x).toUInt32 % 65536).toNat = x.toNat := by rw [UInt32.toNat_mod, h2]; simp; omega
         have h7 : ((zI x).toUInt32 % 65536).toInt32.toBitVec.toNat = x.toNat := h6
         show ((zI x).toUInt32 % 65536).toInt32.toBitVec.toInt = x
         rw [BitVec.toInt_eq_toNat_cond, h7]
         split <;> omega)
  rw [vp_nar, e]
/-- tables as a walk that has written nothing -/
theorem MS0 {E : Nat → Nat → Nat} {s : State} (hC : Cx E s s.heap) : MS E [] s s.heap [] := MS.rf hC (fun _ h => h.elim)
section MORE
variable {p : Program} {l : Launch} {e : Env} {R : Room} {s : State} {m : MethodId} {args : Array Value} {below : List Frame} {meth : Method} {c : Code} {Q : State → Prop} {nL : Nat} {H : Heap} {locs : List Loc} {k n : Nat} {pc : Nat} {L L' : List (Nat × Value)} {st : List Value} {cc : ByteArray} {own : String} {E : Nat → Nat → Nat} {rs : List (Nat × Nat)}
theorem v_null (X : CF p m c cc nL s args own) (hdg : decode cc pc = .ok (.aconst_null, 1)) (pc' : Nat) (hp : pc + 1 = pc') (kk : V p l e R s m args below meth c Q nL H locs k n pc' L (.null :: st)) : V p l e R s m args below meth c Q nL H locs k n pc L st := by
  subst hp
  exact fun ls hl => lv_null X.1 X.2.1 hdg (kk ls hl)
theorem v_dup2 {va vb : Value} (X : CF p m c cc nL s args own) (hdg : decode cc pc = .ok (.dup2, 1)) (pc' : Nat) (hp : pc + 1 = pc') (hva : va.category = 1) (hvb : vb.category = 1) (kk : V p l e R s m args below meth c Q nL H locs k n pc' L (va :: vb :: va :: vb :: st)) : V p l e R s m args below meth c Q nL H locs k n pc L (va :: vb :: st) := by
  subst hp
  exact fun ls hl => lv_dup2_11 X.1 X.2.1 hdg hva hvb (kk ls hl)
theorem v_dupx1 {va vb : Value} (X : CF p m c cc nL s args own) (hdg : decode cc pc = .ok (.dup_x1, 1)) (pc' : Nat) (hp : pc + 1 = pc') (hva : va.category = 1) (hvb : vb.category = 1) (kk : V p l e R s m args below meth c Q nL H locs k n pc' L (va :: vb :: va :: st)) : V p l e R s m args below meth c Q nL H locs k n pc L (va :: vb :: st) := by
  subst hp
  exact fun ls hl => lv_dup_x1 X.1 X.2.1 hdg hva hvb (kk ls hl)
theorem v_acmp_eq {x y : Nat} {off : Int} (X : CF p m c cc nL s args own) (hdg : decode cc pc = .ok (.if_acmp .eq off, 3)) (pc' tgt : Nat) (hp : pc + 3 = pc') (ht : (pc : Int) + off = (tgt : Int)) (kt : x = y → V p l e R s m args below meth c Q nL H locs k n tgt L st) (kf : ¬ x = y → V p l e R s m args below meth c Q nL H locs k n pc' L st) : V p l e R s m args below meth c Q nL H locs k n pc L (.ref y :: .ref x :: st) := by
  subst hp
  exact fun ls hl => lv_acmp_eq (rx := some x) (ry := some y) X.1 X.2.1 hdg ht (fun h => kt (Option.some.inj h) ls hl) (fun h => kf (fun z => h (by rw [z])) ls hl)
theorem v_acmp_ne {x y : Nat} {off : Int} (X : CF p m c cc nL s args own) (hdg : decode cc pc = .ok (.if_acmp .ne off, 3)) (pc' tgt : Nat) (hp : pc + 3 = pc') (ht : (pc : Int) + off = (tgt : Int)) (kt : ¬ x = y → V p l e R s m args below meth c Q nL H locs k n tgt L st) (kf : x = y → V p l e R s m args below meth c Q nL H locs k n pc' L st) : V p l e R s m args below meth c Q nL H locs k n pc L (.ref y :: .ref x :: st) := by
  subst hp
  exact fun ls hl => lv_acmp_ne (rx := some x) (ry := some y) X.1 X.2.1 hdg ht (fun h => kt (fun z => h (by rw [z])) ls hl) (fun h => kf (Option.some.inj h) ls hl)
/-- a constant of Fault -/
theorem v_flt {index : Nat} (X : CF p m c cc nL s args own) (hM : MS E rs s H locs) (j : Nat) (hj : j < 5) (hlink : Cond.fieldLink own index "CaseManager$Fault" (flt j) "LCaseManager$Fault;" ∈ WA) (hdg : decode cc pc = .ok (.getstatic index, 3)) (pc' : Nat) (hp : pc + 3 = pc') (kk : V p l e R s m args below meth c Q nL H locs k n pc' L (.ref (E 103 j) :: st)) : V p l e R s m args below meth c Q nL H locs k n pc L st := by
  subst hp
  intro ls hl
  obtain ⟨cf, kf, fi, f, a, cell, h1, h2, h3, h4, h5, h6, h7, h8⟩ := hM.C.2.2.1.1.1 j hj
  exact W.gets X.1 X.2.1 X.2.2.2.1 (X.2.2.2.2 _ hlink) h1 h2 h3 h4 h5 (fun e => by rw [e] at h6; cases h6) h7 rfl hdg (kk ls hl)
theorem flt_inj {j k : Nat} (hM : MS E rs s H locs) (hj : j < 5) (hk : k < 5) (h : E 103 j = E 103 k) : j = k := hM.C.2.2.1.1.2 j k hj hk h
theorem v_objinit {a idx : Nat} (X : CF p m c cc nL s args own) (hl : Cond.methodLink own idx Lib.objectInit ∈ WA) (hdg : decode cc pc = .ok (.invokespecial idx, 3)) (pc' : Nat) (hp : pc + 3 = pc') (hR : (Nat.ble 1 R.frames && Nat.ble 20 R.locals && Nat.ble (st.map fun v => v.category).sum 8) = true) (kk : V p l e R s m args below meth c Q nL H locs k n pc' L st) : V p l e R s m args below meth c Q nL H locs k n pc L (.ref a :: st) := by
  subst hp
  simp only [Bool.and_eq_true] at hR
  have h1 := Nat.le_of_ble_eq_true hR.1.1
  have h2 := Nat.le_of_ble_eq_true hR.1.2
  have h3 := Nat.le_of_ble_eq_true hR.2
  intro ls hls
  exact W.objInit X.1 X.2.1 X.2.2.2.1 (X.2.2.2.2 _ hl) (X.2.2.2.2 _ kobj_i) (X.2.2.2.2 _ kobj_c) (g := F0 m pc ls (.ref a :: st)) rfl (by rw [X.2.2.1]; exact hls.1) rfl hdg h1 (by show 2 * 0 + _ + 12 ≤ _; omega) (kk ls hls)
theorem v_bald {ws : va_W} {a : Nat} (X : CF p m c cc nL s args own) (hC : Cx E s H) (hP : PW E ws H) (q0 : Nat) {N : Nat} {g : Int → Int} (he : ws[q0]? = some (a, .inl (E 102 2, N, .inl (zA g)))) {i : Int} (h0 : 0 ≤ i) (h1 : i < N) (hN : N < 2147483648) (hdg : decode cc pc = .ok (.baload, 1)) (pc' : Nat) (hp : pc + 1 = pc') (kk : V p l e R s m args below meth c Q nL H locs k n pc' L (.int (zI (g i)) :: st)) : V p l e R s m args below meth c Q nL H locs k n pc L (.int (zI i) :: .ref a :: st) := by
  subst hp
  exact fun ls hl => va_bald X.1 X.2.1 hC.K hP q0 2 he rfl (zI_in h0 h1 hN) hdg (by rw [zA_at h0 (by omega)]; exact kk ls hl)
theorem v_tabOut {dflt lo hi : Int} {offs : Array Int} {len : Nat} {x : Int} (X : CF p m c cc nL s args own) (hx : Rg x) (hdg : decode cc pc = .ok (.tableswitch dflt lo hi offs, len)) (h : x < lo ∨ hi < x) (tgt : Nat) (ht : (pc : Int) + dflt = (tgt : Int)) (kk : V p l e R s m args below meth c Q nL H locs k n tgt L st) : V p l e R s m args below meth c Q nL H locs k n pc L (.int (zI x) :: st) :=
  fun ls hl => lv_tableOut X.1 X.2.1 hdg (by rw [zI_toInt hx]; exact h) ht (kk ls hl)
theorem v_tabIn {dflt lo hi : Int} {offs : Array Int} {len : Nat} {x : Int} (X : CF p m c cc nL s args own) (hx : Rg x) (hdg : decode cc pc = .ok (.tableswitch dflt lo hi offs, len)) (h1 : ¬ x < lo) (h2 : ¬ hi < x) (j : Nat) (hj : (x - lo).toNat = j) {off : Int} (ho : offs[j]? = some off) (tgt : Nat) (ht : (pc : Int) + off = (tgt : Int)) (kk : V p l e R s m args below meth c Q nL H locs k n tgt L st) : V p l e R s m args below meth c Q nL H locs k n pc L (.int (zI x) :: st) :=
  fun ls hl => lv_tableIn X.1 X.2.1 hdg (by rw [zI_toInt hx]; exact h1) (by rw [zI_toInt hx]; exact h2) (by rw [zI_toInt hx, hj]; exact ho) ht (kk ls hl)
end MORE
section MORECALLS
variable {p : Program} {l : Launch} {e : Env} {R : Room} {s : State} {m : MethodId} {args : Array Value} {below : List Frame} {meth : Method} {c : Code} {Q : State → Prop} {nL : Nat} {H : Heap} {locs : List Loc} {k n : Nat} {pc : Nat} {L L' : List (Nat × Value)} {st : List Value} {cc : ByteArray} {own : String} {E : Nat → Nat → Nat} {rs rs' : List (Nat × Nat)} {Po : Option Value → Heap → Prop} {mc ms : Nat}
variable {y : MethodName} {cy : ByteArray} {my N Lc idx k' n' : Nat} {ry : Option FieldType} {wc : va_W} {b : Nat} {As st0 : List Value} {Pr : Heap → Prop} {w : Option Value}
/-- a private method of a nest mate's -/
theorem v_rdVN {host : String} (X : CF p m c cc nL s args own) (hC : Cx E s H) (hP : PW E wc H) (hM : Rd l y cy my ry Lc E (.ref b :: As) wc w) (hk : KV y cy my ry N) (hi : KI y) (hl : Cond.methodLinkNest own idx y host ∈ WN) {ci Nf : Nat} {T : u_T} {fs : List Value} (he : wc[0]? = some (b, .inr (ci, fs))) (hc : vwCl[ci]? = some (y.cls, T, Nf)) (hst : st0 = As.reverse ++ .ref b :: st) (hn : As.length = N)
    (hR : (Nat.ble (Lc + 1) R.frames && Nat.ble (8 + (my + 11) + 60 * Lc) R.locals && Nat.ble k R.cells && Nat.ble n R.slots && Nat.ble (st.map fun v => v.category).sum 8) = true) (hdg : decode cc pc = .ok (.invokevirtual idx, 3)) (pc' : Nat) (hp : pc + 3 = pc')
    (kk : V p l e R s m args below meth c Q nL H locs k n pc' L (w.toList ++ st)) : V p l e R s m args below meth c Q nL H locs k n pc L st0 := by
  subst hp
  obtain ⟨r1, r2, r3⟩ := room_ok hR
  intro ls hls
  have cb : va_CN R s args own idx y host cy my ry (.code y cy my ry :: WA) (rmL Lc 0 0) 0 0 N := va_cnB N (Ts := .code y cy my ry :: WA) (fun w hw => (List.mem_cons.mp hw).elim (fun q => by rw [q]; exact X.2.2.2.2 _ hk.1) (X.2.2.2.2 w)) (WA_code hk.1) rfl rfl rfl (hC.2.1.2 _ hl) (X.2.2.2.2 _ hk.2.1) hk.2.2 r1
  exact rd_call (va_runVN (C := y.cls) (As := As) (rest := st) X hM ⟨cb, X.2.2.2.2 _ hi.1, X.2.2.2.2 _ hi.2⟩ ⟨P0_blind, va_recv (q := (y.cls, T, Nf)) hC.K hP hc he, fun U hU hW => ⟨rfl, by rw [hU]; exact hC.warm hW, by rw [hU]; exact hP⟩⟩ rfl hn hls.1 hst (lv_room r3) hdg r2) (kk ls hls)
end MORECALLS
theorem arrV_ext {cI : ClassId} {N : Nat} {f g : Nat → Value} (h : ∀ j, j < N → f j = g j) : arrV cI N f = arrV cI N g := by
  unfold arrV
  congr 1
  apply Array.ext
  · simp
  · intro i h1 h2
    simp only [Array.getElem_ofFn]
    exact h i (by simpa using h1)
theorem zA_cpy {f g : Int → Int} {n : Nat} : va_cpy (zA f) (zA g) 0 0 n = zA (fun i => if 0 ≤ i ∧ i < n then f i else g i) := by
  funext j
  unfold va_cpy zA
  by_cases h : j < n
  · rw [if_pos (by omega)]
    show _ = zI (if 0 ≤ (j : Int) ∧ (j : Int) < n then f j else g j)
    rw [if_pos (by omega)]
    simp
  · rw [if_neg (by omega)]
    show _ = zI (if 0 ≤ (j : Int) ∧ (j : Int) < n then f j else g j)
    rw [if_neg (by omega)]
/-- an array's contents matter on its places alone -/
theorem PR.arr {E : Nat → Nat → Nat} {b q0 a N t0 : Nat} {ws : va_W} {f g : Int → Int} {H : Heap} (h : PR E b ws H) (he : ws[q0]? = some (a, .inl (E 102 t0, N, .inl (zA f)))) (hfg : ∀ i : Int, 0 ≤ i → i < N → f i = g i) {ws' : va_W} (hw : ws.set q0 (a, .inl (E 102 t0, N, .inl (zA g))) = ws') : PR E b ws' H := by
  subst hw
  refine ⟨fun k q hk => ?_, fun k q hk => ?_⟩
  · by_cases hq : q0 = k
    · subst hq
      have hl : q0 < ws.length := (List.getElem?_eq_some_iff.mp he).1
      rw [List.getElem?_set_self hl] at hk
      cases hk
      have y := h.1 q0 _ he
      show H[a]? = some (vp_cell _ _)
      have y2 : H[a]? = some (vp_cell (E 102 t0) (N, .inl (zA f))) := y
      rw [y2]
      congr 1
      exact arrV_ext (N := N) (fun j hj => by
        show Value.int (zI (f j)) = Value.int (zI (g j))
        rw [hfg j (by omega) (by omega)])
    · rw [List.getElem?_set_ne hq] at hk
      exact h.1 k q hk
  · by_cases hq : q0 = k
    · subst hq
      have hl : q0 < ws.length := (List.getElem?_eq_some_iff.mp he).1
      rw [List.getElem?_set_self hl] at hk
      cases hk
      have y := h.2 q0 _ he
      exact y
    · rw [List.getElem?_set_ne hq] at hk
      exact h.2 k q hk
theorem kcp_n : Cond.native arraycopyName ∈ WA := WA_of (i := 916) (by decide +kernel) (by decide +kernel)
theorem kcp_s : Cond.static arraycopyName ∈ WA := WA_of (i := 915) (by decide +kernel) (by decide +kernel)
theorem kcp_i : Cond.initialized "java/lang/System" ∈ WA := WA_of (i := 55) (by decide +kernel) (by decide +kernel)
section COPY
variable {p : Program} {l : Launch} {e : Env} {R : Room} {s : State} {m : MethodId} {args : Array Value} {below : List Frame} {meth : Method} {c : Code} {Q : State → Prop} {nL : Nat} {H : Heap} {locs : List Loc} {k n : Nat} {pc : Nat} {L L' : List (Nat × Value)} {st : List Value} {cc : ByteArray} {own : String} {E : Nat → Nat → Nat} {rs : List (Nat × Nat)}
/-- System.arraycopy of numbers from place 0 to place 0, between two rows -/
theorem v_copy {idx a a0 b t0 q0 q1 : Nat} {ws0 ws : va_W} (X : CF p m c cc nL s args own) (hM : MS E rs s H locs) (hP0 : PW E ws0 H) (hP : PR E b ws H) {ty : FieldType} (ht : (tysA E)[t0]? = some (E 102 t0, ty)) (hprim : refKind ty = false) {N0 N : Nat} {f g : Int → Int} (he0 : ws0[q0]? = some (a0, .inl (E 102 t0, N0, .inl (zA f)))) (he : ws[q1]? = some (a, .inl (E 102 t0, N, .inl (zA g)))) {z : Int} (hz0 : 0 ≤ z) (hz1 : z ≤ N0) (hz2 : z ≤ N) (hN0 : N0 < 2147483648) (hN : N < 2147483648) (hfit : ∀ i : Int, 0 ≤ i → i < z → fits ty (.int (zI (f i))) = true)
    (hin : Fr rs s.heap.size a) (hl : Cond.methodLink own idx arraycopyName ∈ WA) (hR : (Nat.ble 1 R.frames && Nat.ble 60 R.locals && Nat.ble (st.map fun v => v.category).sum 8) = true) (hdg : decode cc pc = .ok (.invokestatic idx, 3)) (pc' : Nat) (hp : pc + 3 = pc') {ws' : va_W} (hw : ws.set q1 (a, .inl (E 102 t0, N, .inl (zA (fun i => if 0 ≤ i ∧ i < z then f i else g i)))) = ws')
    (kk : ∀ (H1 : Heap) (locs1 : List Loc), H1.size = H.size → MS E rs s H1 locs1 → Fm [(a, 1)] H H1 → PR E b ws' H1 → V p l e R s m args below meth c Q nL H1 locs1 k n pc' L st) : V p l e R s m args below meth c Q nL H locs k n pc L (.int (zI z) :: .int (zI 0) :: .ref a :: .int (zI 0) :: .ref a0 :: st) := by
  subst hp; subst hw
  simp only [Bool.and_eq_true] at hR
  have r1 := Nat.le_of_ble_eq_true hR.1.1
  have r2 := Nat.le_of_ble_eq_true hR.1.2
  have r3 := Nat.le_of_ble_eq_true hR.2
  have ez : (zI z).toInt = z := zI_toInt (by omega)
  have ec : (zI z).toNatClampNeg = z.toNat := zI_clamp hz0 (by omega)
  have e0 : (zI 0).toNatClampNeg = 0 := rfl
  have e00 : (zI 0).toInt = 0 := rfl
  intro ls hls T hT X0
  have hc0 : H[a0]? = some (vp_cell (E 102 t0) (N0, .inl (zA f))) := hP0 q0 _ he0
  have hc1 : H[a]? = some (vp_cell (E 102 t0) (N, .inl (zA g))) := hP.1 q1 _ he
  obtain ⟨-, k0, hk0, cm0, hkk0⟩ := (hM.C.K.2 t0 _ ht).1 N0 (fun j => .int (zA f j))
  obtain ⟨-, k1, hk1, cm1, hkk1⟩ := (hM.C.K.2 t0 _ ht).1 N (fun j => .int (zA g j))
  obtain ⟨vm', X', step⟩ := X0.arraycopy X.1 X.2.2.2.1 (X.2.2.2.2 _ hl) (X.2.2.2.2 _ kcp_n) (X.2.2.2.2 _ kcp_s) (X.2.2.2.2 _ kcp_i) (src := a0) (dst := a) (cs := vp_cell (E 102 t0) (N0, .inl (zA f))) (cd := vp_cell (E 102 t0) (N, .inl (zA g))) (srcPos := zI 0) (destPos := zI 0) (n := zI z) (by rw [hT]; exact hc0) (by rw [hT]; exact hc1)
    (fun _ h => by cases h) (fun _ h => by cases h) (fun h => by cases h) (fun h => by cases h) hk0 hk1 hkk0 hkk1 (by simp [hprim]) (by decide) (by decide) (by rw [zI_0, zI_lt (by omega) (by omega)]; omega)
    (by rw [e00, ez]; show ¬ _ > ((arrV _ N0 (fun j => .int (zA f j))).slots.size : Int); rw [arrV_size]; omega)
    (by rw [e00, ez]; show ¬ _ > ((arrV _ N (fun j => .int (zA g j))).slots.size : Int); rw [arrV_size]; omega)
    (fun vm₁ _ i hi => by
      rw [ec] at hi
      have e : (vp_cell (E 102 t0) (N0, .inl (zA f))).slots.getD ((zI 0).toNatClampNeg + i) .null = .int (zI (f i)) := by
        rw [e0, Nat.zero_add]
        show (arrV _ N0 (fun j => .int (zA f j))).slots.getD _ _ = _
        rw [Array.getD_eq_getD_getElem?, arrV_read _ _ (by omega)]
        rfl
      refine ⟨?_, ?_⟩
      · rw [e]
        exact hfit i (by omega) (by omega)
      · rw [e]
        exact trivial)
    (g := F0 m pc ls (.int (zI z) :: .int (zI 0) :: .ref a :: .int (zI 0) :: .ref a0 :: st)) rfl (by rw [X.2.2.1]; exact hls.1) (rest := st) rfl (by rw [X.2.1]; exact hdg) r1 (by
      show 2 * 0 + _ + (nativeFrameWords "java/lang/System" "arraycopy" 5 + 11) ≤ _
      have : nativeFrameWords "java/lang/System" "arraycopy" 5 ≤ 20 := by decide
      omega)
  have e1 : copied (vp_cell (E 102 t0) (N0, .inl (zA f))) (vp_cell (E 102 t0) (N, .inl (zA g))) (zI 0) (zI 0) (zI z) = vp_cell (E 102 t0) (N, .inl (va_cpy (zA f) (zA g) (zI 0).toNatClampNeg (zI 0).toNatClampNeg (zI z).toNatClampNeg)) := va_copied (fun z => .int z) (E 102 t0) (E 102 t0) (zA f) (zA g) (by rw [e0, ec]; omega)
  rw [e0, ec, zA_cpy, show ((z.toNat : Nat) : Int) = z by omega] at e1
  rw [e1] at X' step
  have hl1 : a < H.size := (Array.getElem?_eq_some_iff.mp hc1).1
  have hheap : ((T.setVm vm').setCell a (vp_cell (E 102 t0) (N, .inl (zA (fun i => if 0 ≤ i ∧ i < z then f i else g i))))).heap = H.setIfInBounds a (vp_cell (E 102 t0) (N, .inl (zA (fun i => if 0 ≤ i ∧ i < z then f i else g i)))) := by rw [← hT]; rfl
  have oq : ∀ q : Nat, q ≠ a → (H.setIfInBounds a (vp_cell (E 102 t0) (N, .inl (zA (fun i => if 0 ≤ i ∧ i < z then f i else g i)))))[q]? = H[q]? := fun q hq => by simp [Array.getElem?_setIfInBounds, Ne.symm hq]
  have hsz : (H.setIfInBounds a (vp_cell (E 102 t0) (N, .inl (zA (fun i => if 0 ≤ i ∧ i < z then f i else g i))))).size = H.size := by simp
  have hF : Fm [(a, 1)] H (H.setIfInBounds a (vp_cell (E 102 t0) (N, .inl (zA (fun i => if 0 ≤ i ∧ i < z then f i else g i))))) := cell1 hsz oq
  obtain ⟨t, a1, b1⟩ := kk _ _ hsz (hM.mut hF (fun q hq => by rw [hq.one]; exact hin) (fun q hq => by
    obtain ⟨w, -, hw⟩ := List.mem_map.mp hq
    rw [← hw]
    exact Or.inl Fs.self)) hF (hP.set he (show (H.setIfInBounds a _)[a]? = some _ by simp [Array.getElem?_setIfInBounds, hl1]) oq) ls hls _ hheap X'
  exact ⟨t, step t a1, b1⟩
end COPY
theorem fsd {b n b' n' : Nat} (h : b + n ≤ b' ∨ b' + n' ≤ b) : ∀ q, b ≤ q → q < b + n → ¬ Fs [(b', n')] q := by
  intro q h1 h2 h3
  rcases h3 with ⟨h4, h5⟩ | h3
  · dsimp only at h4 h5
    omega
  · exact h3
theorem fsI {P : Nat → Prop} {b n : Nat} (h : ∀ q, b ≤ q → q < b + n → P q) : ∀ q, Fs [(b, n)] q → P q := by
  intro q h3
  rcases h3 with ⟨h4, h5⟩ | h3
  · exact h q h4 h5
  · exact h3.elim
theorem fsT {r : Nat × Nat} {rs : List (Nat × Nat)} {q : Nat} (h : Fs rs q) : Fs (r :: rs) q := Or.inr h
theorem fsH {b n q : Nat} {rs : List (Nat × Nat)} (h : b ≤ q) (h2 : q < b + n) : Fs ((b, n) :: rs) q := Or.inl ⟨h, h2⟩
theorem PR.app2 {E : Nat → Nat → Nat} {b b' : Nat} {ws wc ws' : va_W} {H : Heap} (h : PR E b ws H) (n : Nat) (hn : ws.length = n) (hb : b + n = b') (hc : PR E b' wc H) (hw : ws ++ wc = ws') : PR E b ws' H := by
  subst hw
  exact h.app (by rw [hn]; exact hb) hc
theorem V_S {p : Program} {l : Launch} {e : Env} {R : Room} {s : State} {m : MethodId} {args : Array Value} {below : List Frame} {meth : Method} {c : Code} {Q : State → Prop} {nL : Nat} {H : Heap} {locs : List Loc} {k n : Nat} {pc : Nat} {L : List (Nat × Value)} {st st' : List Value} (h : st = st') (kk : V p l e R s m args below meth c Q nL H locs k n pc L st') : V p l e R s m args below meth c Q nL H locs k n pc L st := by rw [h]; exact kk
theorem OkC.upd {co : Nat → Int → Int} (h : OkC co) {r : Nat} {i v : Int} (h1 : 1 ≤ r) (h2 : r ≤ 13) (hv : loC r ≤ v ∧ v ≤ hiC r) : OkC (updC co r (updZ (co r) i v)) := by
  refine ⟨?_, ?_, fun q q1 q2 j => ?_⟩
  · rw [updC_ne co _ (show (0 : Nat) ≠ r by omega)]; exact h.1
  · rw [updC_ne co _ (show (0 : Nat) ≠ r by omega)]; exact h.2.1
  · by_cases e : q = r
    · subst e
      rw [updC_at]
      unfold updZ
      split
      · exact hv
      · exact h.2.2 q q1 q2 j
    · rw [updC_ne co _ e]; exact h.2.2 q q1 q2 j
theorem OkC.sc {co : Nat → Int → Int} (h : OkC co) {g : Int → Int} (h0 : 0 ≤ g 0 ∧ g 0 ≤ 16) (h1 : 0 ≤ g 1 ∧ g 1 ≤ 8) : OkC (updC co 0 g) := by
  refine ⟨by rw [updC_at]; exact h0, by rw [updC_at]; exact h1, fun q q1 q2 j => ?_⟩
  rw [updC_ne co _ (show q ≠ 0 by omega)]; exact h.2.2 q q1 q2 j
theorem updZ_b {g : Int → Int} {lo hi i v : Int} (h : ∀ j, lo ≤ g j ∧ g j ≤ hi) (hv : lo ≤ v ∧ v ≤ hi) : ∀ j, lo ≤ updZ g i v j ∧ updZ g i v j ≤ hi := by
  intro j
  unfold updZ
  split
  · exact hv
  · exact h j
theorem clr_s {g : Int → Int} (i : Nat) : updZ (fun j => if 0 ≤ j ∧ j < (i : Int) then 0 else g j) i 0 = fun j => if 0 ≤ j ∧ j < ((i + 1 : Nat) : Int) then 0 else g j := by
  funext j
  unfold updZ
  by_cases h : j = i
  · rw [if_pos h, if_pos (by omega)]
  · rw [if_neg h]
    by_cases h2 : 0 ≤ j ∧ j < (i : Int)
    · show (if 0 ≤ j ∧ j < (i : Int) then 0 else g j) = _
      rw [if_pos h2, if_pos (by omega)]
    · show (if 0 ≤ j ∧ j < (i : Int) then 0 else g j) = _
      rw [if_neg h2, if_neg (by omega)]
/-- from a witness up to its root, n steps at most -/
def rtF (g : Int → Int) : Nat → Int → Int
  | 0, x => x
  | n + 1, x => if g x = x then x else rtF g n (g x)
theorem rtF_s (g : Int → Int) (n : Nat) (x : Int) : rtF g (n + 1) x = if g x = x then x else rtF g n (g x) := rfl
theorem rtF_b {g : Int → Int} (hG : ∀ i : Int, 0 ≤ g i ∧ g i ≤ 7) : ∀ (n : Nat) (x : Int), 0 ≤ x → x ≤ 7 → 0 ≤ rtF g n x ∧ rtF g n x ≤ 7
  | 0, x, h0, h1 => ⟨h0, h1⟩
  | n + 1, x, h0, h1 => by
    rw [rtF_s]
    split
    · exact ⟨h0, h1⟩
    · exact rtF_b hG n (g x) (hG x).1 (hG x).2
theorem rtF_root {g : Int → Int} : ∀ (n : Nat) (x : Int), g x = x → rtF g n x = x
  | 0, x, h => rfl
  | n + 1, x, h => by rw [rtF_s, if_pos h]
theorem zI_min {x y : Int} (hx : Rg x) (hy : Rg y) : (if zI y < zI x then zI y else zI x) = zI (min x y) := by
  by_cases h : y < x
  · rw [if_pos ((zI_lt hy hx).mpr h), show min x y = y by omega]
  · rw [if_neg (fun z => h ((zI_lt hy hx).mp z)), show min x y = x by omega]
theorem zI_max {x y : Int} (hx : Rg x) (hy : Rg y) : (if zI x < zI y then zI y else zI x) = zI (max x y) := by
  by_cases h : x < y
  · rw [if_pos ((zI_lt hx hy).mpr h), show max x y = y by omega]
  · rw [if_neg (fun z => h ((zI_lt hx hy).mp z)), show max x y = x by omega]
section NUL
variable {p : Program} {l : Launch} {e : Env} {R : Room} {s : State} {m : MethodId} {args : Array Value} {below : List Frame} {meth : Method} {c : Code} {Q : State → Prop} {nL : Nat} {H : Heap} {locs : List Loc} {k n : Nat} {pc : Nat} {L L' : List (Nat × Value)} {st : List Value} {cc : ByteArray} {own : String}
theorem v_ifnull {x : Nat} {off : Int} (X : CF p m c cc nL s args own) (hdg : decode cc pc = .ok (.ifnull off, 3)) (pc' : Nat) (hp : pc + 3 = pc') (kk : V p l e R s m args below meth c Q nL H locs k n pc' L st) : V p l e R s m args below meth c Q nL H locs k n pc L (.ref x :: st) := by
  subst hp
  exact fun ls hl => lv_ifnull X.1 X.2.1 hdg (kk ls hl)
theorem v_ifnonnull {x : Nat} {off : Int} (X : CF p m c cc nL s args own) (hdg : decode cc pc = .ok (.ifnonnull off, 3)) (tgt : Nat) (ht : (pc : Int) + off = (tgt : Int)) (kk : V p l e R s m args below meth c Q nL H locs k n tgt L st) : V p l e R s m args below meth c Q nL H locs k n pc L (.ref x :: st) :=
  fun ls hl => lv_ifnonnull X.1 X.2.1 hdg ht (kk ls hl)
end NUL
