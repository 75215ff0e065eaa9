/-! methods that write: what they may write is a list of blocks of addresses, and all new ones -/
def Fs : List (Nat × Nat) → Nat → Prop
  | [], _ => False
  | r :: rs, q => (r.1 ≤ q ∧ q < r.1 + r.2) ∨ Fs rs q
abbrev Fr (rs : List (Nat × Nat)) (sz : Nat) : Nat → Prop := fun q => Fs rs q ∨ sz ≤ q
def Fm (rs : List (Nat × Nat)) (H H1 : Heap) : Prop := H.size ≤ H1.size ∧ ∀ q : Nat, q < H.size → ¬ Fs rs q → H1[q]? = H[q]?
/-- a world in a block from b on -/
def PR (E : Nat → Nat → Nat) (b : Nat) (ws : va_W) (H : Heap) : Prop := PW E ws H ∧ ∀ (k : Nat) (q : Nat × va_E), ws[k]? = some q → q.1 = b + k
theorem PR.nd {E : Nat → Nat → Nat} {b : Nat} {ws : va_W} {H : Heap} (h : PR E b ws H) : va_D (fun _ => True) ws := ⟨fun i j p q hp hq e => by
    have h1 := h.2 i p hp
    have h2 := h.2 j q hq
    omega, fun _ _ _ => trivial⟩
theorem PR.kept {E : Nat → Nat → Nat} {b : Nat} {ws : va_W} {H H1 : Heap} {rs : List (Nat × Nat)} (h : PR E b ws H) (hF : Fm rs H H1) (n : Nat) (hn : ws.length = n) (hd : ∀ q, b ≤ q → q < b + n → ¬ Fs rs q) : PR E b ws H1 :=
  ⟨h.1.kept (fun k q hk => by
    have hl : k < ws.length := (List.getElem?_eq_some_iff.mp hk).1
    have e := h.2 k q hk
    exact hF.2 q.1 (h.1 k q hk).lt (hd q.1 (by omega) (by omega))), h.2⟩
theorem PR.to {E : Nat → Nat → Nat} {b : Nat} {ws ws' : va_W} {H : Heap} (h : PR E b ws H) (e : ws = ws') : PR E b ws' H := by rw [← e]; exact h
theorem PR.sub {E : Nat → Nat → Nat} {b : Nat} {ws : va_W} {H : Heap} (h : PR E b ws H) (i n : Nat) {b' : Nat} (hb : b + i = b') {wc : va_W} (hs : (ws.drop i).take n = wc) : PR E b' wc H := by
  subst hb; subst hs
  have key : ∀ (k : Nat) (q : Nat × va_E), ((ws.drop i).take n)[k]? = some q → ws[i + k]? = some q := by
    intro k q hk
    rw [List.getElem?_take] at hk
    split at hk
    · rwa [List.getElem?_drop] at hk
    · cases hk
  exact ⟨fun k q hk => h.1 (i + k) q (key k q hk), fun k q hk => by rw [h.2 (i + k) q (key k q hk)]; omega⟩
theorem PR.join {E : Nat → Nat → Nat} {b : Nat} {ws : va_W} {H H1 : Heap} (h : PR E b ws H) (i n : Nat) {b' : Nat} (hb : b + i = b') {wc ws' : va_W} (hc : PR E b' wc H1) (hF : Fm [(b', n)] H H1) (hn : wc.length = n) (hi : i ≤ ws.length) (hs : ws.take i ++ (wc ++ ws.drop (i + n)) = ws') : PR E b ws' H1 := by
  subst hb; subst hs
  have hti : (ws.take i).length = i := by rw [List.length_take]; omega
  have old : ∀ (k : Nat) (q : Nat × va_E), ws[k]? = some q → (k < i ∨ i + n ≤ k) → va_at (zD E) vwCl q H1 := by
    intro k q hk ho
    have e := h.2 k q hk
    refine (h.1 k q hk).kept (hF.2 q.1 (h.1 k q hk).lt ?_)
    intro z
    rcases z with ⟨z1, z2⟩ | z
    · dsimp only at z1 z2
      omega
    · exact z
  have key : ∀ (k : Nat) (q : Nat × va_E), (ws.take i ++ (wc ++ ws.drop (i + n)))[k]? = some q → (ws[k]? = some q ∧ (k < i ∨ i + n ≤ k)) ∨ (i ≤ k ∧ wc[k - i]? = some q) := by
    intro k q hk
    by_cases h1 : k < i
    · rw [List.getElem?_append_left (by omega), List.getElem?_take, if_pos h1] at hk
      exact Or.inl ⟨hk, Or.inl h1⟩
    · rw [List.getElem?_append_right (by omega), hti] at hk
      by_cases h2 : k - i < n
      · rw [List.getElem?_append_left (by omega)] at hk
        exact Or.inr ⟨by omega, hk⟩
      · rw [List.getElem?_append_right (by omega), List.getElem?_drop] at hk
        exact Or.inl ⟨by rw [← hk]; congr 1; omega, Or.inr (by omega)⟩
  refine ⟨fun k q hk => ?_, fun k q hk => ?_⟩
  · rcases key k q hk with ⟨h1, h2⟩ | ⟨h1, h2⟩
    · exact old k q h1 h2
    · exact hc.1 _ q h2
  · rcases key k q hk with ⟨h1, -⟩ | ⟨h1, h2⟩
    · exact h.2 k q h1
    · rw [hc.2 _ q h2]; omega
theorem PR.app {E : Nat → Nat → Nat} {b b' : Nat} {ws wc : va_W} {H : Heap} (h : PR E b ws H) (hb : b + ws.length = b') (hc : PR E b' wc H) : PR E b (ws ++ wc) H := by
  subst hb
  refine ⟨h.1.app hc.1, fun k q hk => ?_⟩
  by_cases h1 : k < ws.length
  · rw [List.getElem?_append_left h1] at hk
    exact h.2 k q hk
  · rw [List.getElem?_append_right (by omega)] at hk
    rw [hc.2 _ q hk]; omega
theorem Fm.rf {rs : List (Nat × Nat)} {H : Heap} : Fm rs H H := ⟨Nat.le_refl _, fun _ _ _ => rfl⟩
theorem Fm.wide {rs rs' : List (Nat × Nat)} {H H1 : Heap} (h : Fm rs H H1) (hs : ∀ q, Fs rs q → Fs rs' q) : Fm rs' H H1 := ⟨h.1, fun q h1 h2 => h.2 q h1 (fun z => h2 (hs q z))⟩
theorem Fm.trans {rs : List (Nat × Nat)} {H H1 H2 : Heap} (h : Fm rs H H1) (h2 : Fm rs H1 H2) : Fm rs H H2 := ⟨Nat.le_trans h.1 h2.1, fun q a b => (h2.2 q (Nat.lt_of_lt_of_le a h.1) b).trans (h.2 q a b)⟩
/-- what a walk has written so far, and the tables -/
def MS (E : Nat → Nat → Nat) (rs : List (Nat × Nat)) (s : State) (H : Heap) (locs : List Loc) : Prop := va_S (Fr rs s.heap.size) s.heap H locs ∧ Cx E s H ∧ z0 E ≤ s.heap.size ∧ ∀ q, Fs rs q → z0 E ≤ q
theorem MS.rf {E : Nat → Nat → Nat} {rs : List (Nat × Nat)} {s : State} (hC : Cx E s s.heap) (hz : ∀ q, Fs rs q → z0 E ≤ q) : MS E rs s s.heap [] := ⟨va_S.rf, hC, hC.1, hz⟩
theorem MS.z {E : Nat → Nat → Nat} {rs : List (Nat × Nat)} {s : State} {H : Heap} {locs : List Loc} (h : MS E rs s H locs) {q : Nat} (hq : Fr rs s.heap.size q) : z0 E ≤ q := by
  rcases hq with z | z
  · exact h.2.2.2 q z
  · exact Nat.le_trans h.2.2.1 z
theorem MS.mut {E : Nat → Nat → Nat} {rs rs' : List (Nat × Nat)} {s : State} {H H1 : Heap} {locs L : List Loc} (h : MS E rs s H locs) (hF : Fm rs' H H1) (hs : ∀ q, Fs rs' q → Fr rs s.heap.size q) (hL : ∀ q ∈ L, Fr rs' H.size q.base) : MS E rs s H1 (locs ++ L) :=
  ⟨⟨Nat.le_trans h.1.1 hF.1, fun q h1 h2 => (hF.2 q (Nat.lt_of_lt_of_le h1 h.1.1) (fun z => h2 (hs q z))).trans (h.1.2.1 q h1 h2), fun q hq => by
    rcases List.mem_append.mp hq with z | z
    · exact h.1.2.2 q z
    · rcases hL q z with y | y
      · exact hs _ y
      · exact Or.inr (Nat.le_trans h.1.1 y)⟩, h.2.1.kept hF.1 (fun a h1 h2 => hF.2 a h1 (fun z => h2 (h.z (hs a z)))), h.2.2⟩
theorem MS.C {E : Nat → Nat → Nat} {rs : List (Nat × Nat)} {s : State} {H : Heap} {locs : List Loc} (h : MS E rs s H locs) : Cx E s H := h.2.1
theorem MS.F {E : Nat → Nat → Nat} {rs : List (Nat × Nat)} {s : State} {H : Heap} {locs : List Loc} (h : MS E rs s H locs) : Fm rs s.heap H := ⟨h.1.1, fun q h1 h2 => h.1.2.1 q h1 (fun z => by
    rcases z with z | z
    · exact h2 z
    · omega)⟩
theorem cell1 {a : Nat} {H H1 : Heap} (z : H1.size = H.size) (oq : ∀ q : Nat, q ≠ a → H1[q]? = H[q]?) : Fm [(a, 1)] H H1 := ⟨by omega, fun q _ h2 => oq q (fun e => h2 (Or.inl ⟨by dsimp only; omega, by dsimp only; omega⟩))⟩
theorem Fs.one {a q : Nat} (h : Fs [(a, 1)] q) : q = a := by
  rcases h with ⟨h1, h2⟩ | h
  · dsimp only at h1 h2
    omega
  · exact h.elim
theorem Fs.self {a : Nat} : Fs [(a, 1)] a := Or.inl ⟨by dsimp only; omega, by dsimp only; omega⟩
/-- it returns, and then Po of what it returns and of the heap -/
def Qm (rs : List (Nat × Nat)) (Po : Option Value → Heap → Prop) : Array Value → State → Outcome → State → Prop := fun _ st o t => ∃ v, o = .returned v ∧ Po v t.heap ∧ Fm rs st.heap t.heap
abbrev Pm (E : Nat → Nat → Nat) (rs : List (Nat × Nat)) (sz : Nat) (av : List Value) (Pr : Heap → Prop) : Array Value → State → Prop := va_Pc av (fun U => Cx E U U.heap ∧ U.heap.size = sz ∧ (∀ q, Fs rs q → z0 E ≤ q) ∧ Pr U.heap)
theorem Pm_blind {E : Nat → Nat → Nat} {rs : List (Nat × Nat)} {sz : Nat} {av : List Value} {Pr : Heap → Prop} : FrameBlind (Pm E rs sz av Pr) := fun a U g mk q => ⟨q.1, q.2.1.same (s := U) (U := U.calling g mk a) rfl, q.2.2⟩
def Mu (l : Launch) (y : MethodName) (cy : ByteArray) (my : Nat) (ry : Option FieldType) (Lv mc ms : Nat) (E : Nat → Nat → Nat) (rs : List (Nat × Nat)) (av : List Value) (Pr : Heap → Prop) (Po : Option Value → Heap → Prop) : Prop :=
  ∀ sz, Met l y (.code y cy my ry :: WA) (rmL Lv mc ms) (Pm E rs sz av Pr) (Qm rs Po) mc ms (Fr rs sz)
theorem Mu.start {l : Launch} {y : MethodName} {cy : ByteArray} {my : Nat} {ry : Option FieldType} {Lv mc ms : Nat} {E : Nat → Nat → Nat} {rs : List (Nat × Nat)} {av : List Value} {Pr : Heap → Prop} {Po : Option Value → Heap → Prop} {own : String} (ho : y.cls = own) (hy : plainName own = true) (hn : (lg_sl av).length ≤ my)
    (body : ∀ (p : Program) (e : Env) (s : State) (m : MethodId) (below : List Frame) (meth : Method) (c : Code) (args : Array Value) (Q : State → Prop), Q = MQ below (Qm rs Po) args s mc ms (Fr rs s.heap.size) → CF p m c cy my s args own → meth.sig.returnType = ry → meth.locks = false → meth.name = y.name → MS E rs s s.heap [] → Pr s.heap →
      V p l e (rmL Lv mc ms) s m args below meth c Q my s.heap [] 0 0 0 (lv_args 0 av) []) : Mu l y cy my ry Lv mc ms E rs av Pr Po := by
  intro sz
  refine Met.ofW (cc := cy) (maxL := my) (ret := ry) (by rw [ho]; exact hy) rfl ?_
  intro p e s m args below meth c s₁ B hml hv
  obtain ⟨rfl, hC, hsz, hz, hP⟩ := hv
  subst hsz
  have hts := atoms_spec (ws := .code y cy my ry :: WA) B.pre
  have K := body p e s m below meth c av.toArray _ rfl ⟨B.exec, B.bytes, hml, by rw [← ho]; exact findClass_of_methodNamed B.named, fun w h => hts w (List.mem_cons_of_mem _ h)⟩ B.returns B.notSynchronized (name_of_methodNamed B.named B.method).1 (MS.rf hC hz) hP
  rw [lg_entry_eq]
  exact K _ (lv_entry av hn)
section MUT
variable {p : Program} {l : Launch} {e : Env} {R : Room} {s : State} {m : MethodId} {args : Array Value} {below : List Frame} {meth : Method} {c : Code} {Q : State → Prop} {nL : Nat} {H : Heap} {locs : List Loc} {k n : Nat} {pc : Nat} {L L' : List (Nat × Value)} {st : List Value} {cc : ByteArray} {own : String} {E : Nat → Nat → Nat} {rs rs' : List (Nat × Nat)} {Po : Option Value → Heap → Prop} {mc ms : Nat}
theorem m_iret {z : Int} (X : CF p m c cc nL s args own) (hr : meth.sig.returnType = some .int) (hlk : meth.locks = false) (hM : MS E rs s H locs) (hdg : decode cc pc = .ok (.ireturn, 1)) (hk : (Nat.ble k mc && Nat.ble n ms) = true) (hp : Po (some (.int (zI z))) H) : V p l e R s m args below meth c (MQ below (Qm rs Po) args s mc ms (Fr rs s.heap.size)) nL H locs k n pc L [.int (zI z)] := by
  simp only [Bool.and_eq_true] at hk
  exact fun ls hl T hT St => W.iret X.1 X.2.1 hr (fun t ht hW => ⟨_, rfl, by rw [ht]; exact hp, by rw [ht]; exact hM.F⟩) hM.1.2.2 hdg hlk T hT (stand_widen St (Nat.le_of_ble_eq_true hk.1) (Nat.le_of_ble_eq_true hk.2))
theorem m_zret {z : Int} (X : CF p m c cc nL s args own) (hr : meth.sig.returnType = some .boolean) (hlk : meth.locks = false) (hM : MS E rs s H locs) (hdg : decode cc pc = .ok (.ireturn, 1)) (hk : (Nat.ble k mc && Nat.ble n ms) = true) (hz : z = 0 ∨ z = 1) (hp : Po (some (.int (zI z))) H) : V p l e R s m args below meth c (MQ below (Qm rs Po) args s mc ms (Fr rs s.heap.size)) nL H locs k n pc L [.int (zI z)] := by
  simp only [Bool.and_eq_true] at hk
  have hnr : narrow .boolean (.int (zI z)) = .int (zI z) := by
    rcases hz with q | q <;> subst q <;> rfl
  exact fun ls hl T hT St => W.zret X.1 X.2.1 hr hnr (fun t ht hW => ⟨_, rfl, by rw [ht]; exact hp, by rw [ht]; exact hM.F⟩) hM.1.2.2 hdg hlk T hT (stand_widen St (Nat.le_of_ble_eq_true hk.1) (Nat.le_of_ble_eq_true hk.2))
theorem m_aret {v : Value} {rt : FieldType} (X : CF p m c cc nL s args own) (hr : meth.sig.returnType = some rt) (hrt : (∃ n, rt = .object n) ∨ ∃ t, rt = .array t) (hlk : meth.locks = false) (hM : MS E rs s H locs) (hdg : decode cc pc = .ok (.areturn, 1)) (hk : (Nat.ble k mc && Nat.ble n ms) = true) (hv : v = .null ∨ ∃ a, v = .ref a) (hp : Po (some v) H) : V p l e R s m args below meth c (MQ below (Qm rs Po) args s mc ms (Fr rs s.heap.size)) nL H locs k n pc L [v] := by
  simp only [Bool.and_eq_true] at hk
  exact fun ls hl T hT St => W.aret X.1 X.2.1 hr hrt hv (fun t ht hW => ⟨_, rfl, by rw [ht]; exact hp, by rw [ht]; exact hM.F⟩) hM.1.2.2 hdg hlk T hT (stand_widen St (Nat.le_of_ble_eq_true hk.1) (Nat.le_of_ble_eq_true hk.2))
theorem m_vret (X : CF p m c cc nL s args own) (hr : meth.sig.returnType = none) (hlk : meth.locks = false) (hM : MS E rs s H locs) (hdg : decode cc pc = .ok (.return_, 1)) (hk : (Nat.ble k mc && Nat.ble n ms) = true) (hp : Po none H) : V p l e R s m args below meth c (MQ below (Qm rs Po) args s mc ms (Fr rs s.heap.size)) nL H locs k n pc L [] := by
  simp only [Bool.and_eq_true] at hk
  exact fun ls hl T hT St => W.vret X.1 X.2.1 hr (fun t ht hW => ⟨_, rfl, by rw [ht]; exact hp, by rw [ht]; exact hM.F⟩) hM.1.2.2 hdg hlk T hT (stand_widen St (Nat.le_of_ble_eq_true hk.1) (Nat.le_of_ble_eq_true hk.2))
/-- room once for all: more cells and slots booked -/
theorem v_widen {k' n' : Nat} (h1 : k ≤ k') (h2 : n ≤ n') (kk : V p l e R s m args below meth c Q nL H locs k' n' pc L st) : V p l e R s m args below meth c Q nL H locs k n pc L st := fun ls hl T hT St => kk ls hl T hT (stand_widen St h1 h2)
theorem mu_call {ls : Array Slot} {st0 rest : List Value} {a : Array Value} (hr : va_Run p l e R s m args below meth c H locs k n mc ms (F0 m pc ls st0) rest (Qm rs' Po a) (Fr rs' H.size)) (hM : MS E rs s H locs) (hs : ∀ q, Fs rs' q → Fr rs s.heap.size q)
    (kk : ∀ (v : Option Value) (H1 : Heap) (locs1 : List Loc), MS E rs s H1 locs1 → Fm rs' H H1 → Po v H1 → W p l e R s m args below meth c H1 locs1 (k + mc) (n + ms) Q (F0 m (pc + 3) ls (v.toList ++ rest))) : W p l e R s m args below meth c H locs k n Q (F0 m pc ls st0) := by
  intro T hT X
  obtain ⟨v, st₀, t, T', L, h0, X', hL, e1, -, ⟨v', hv, hp, hF⟩, st⟩ := hr T hT X
  cases hv
  rw [← e1] at hp
  rw [h0, ← e1] at hF
  obtain ⟨t2, a1, b1⟩ := kk v T'.heap (locs ++ L) (hM.mut hF hs hL) hF hp T' rfl X'
  exact ⟨t2, st t2 a1, b1⟩
variable {y : MethodName} {cy : ByteArray} {my N Lc idx k' n' : Nat} {ry : Option FieldType} {wc : va_W} {b : Nat} {As st0 : List Value} {Pr : Heap → Prop}
theorem room_okM (hR : (Nat.ble (Lc + 1) R.frames && Nat.ble (8 + (my + 11) + 60 * Lc) R.locals && Nat.ble (k + mc) R.cells && Nat.ble (n + ms) R.slots && Nat.ble (st.map fun v => v.category).sum 8) = true) : (Lc + 1 ≤ R.frames ∧ 8 + (my + 11) + 60 * Lc ≤ R.locals) ∧ (k + mc ≤ R.cells ∧ n + ms ≤ R.slots) ∧ (st.map fun v => v.category).sum ≤ 8 := by
  simp only [Bool.and_eq_true] at hR
  obtain ⟨⟨⟨⟨h1, h2⟩, h3⟩, h4⟩, h5⟩ := hR
  exact ⟨⟨Nat.le_of_ble_eq_true h1, Nat.le_of_ble_eq_true h2⟩, ⟨Nat.le_of_ble_eq_true h3, Nat.le_of_ble_eq_true h4⟩, Nat.le_of_ble_eq_true h5⟩
theorem v_muV (X : CF p m c cc nL s args own) (hM : MS E rs s H locs) (hP : PW E wc H) (hc1 : Mu l y cy my ry Lc mc ms E rs' (.ref b :: As) Pr Po) (hk : KV y cy my ry N) (hi : KI y) (hl : Cond.methodLink own idx y ∈ WA) {q0 ci Nf : Nat} {T : u_T} {fs : List Value} (he : wc[q0]? = some (b, .inr (ci, fs))) (hc : vwCl[ci]? = some (y.cls, T, Nf)) (hst : st0 = As.reverse ++ .ref b :: st) (hn : As.length = N)
    (hR : (Nat.ble (Lc + 1) R.frames && Nat.ble (8 + (my + 11) + 60 * Lc) R.locals && Nat.ble (k + mc) R.cells && Nat.ble (n + ms) R.slots && Nat.ble (st.map fun v => v.category).sum 8) = true) (hdg : decode cc pc = .ok (.invokevirtual idx, 3)) (pc' : Nat) (hp : pc + 3 = pc') (hk' : k + mc = k') (hn' : n + ms = n') (hs : ∀ q, Fs rs' q → Fr rs s.heap.size q) (hpr : Pr H)
    (kk : ∀ (v : Option Value) (H1 : Heap) (locs1 : List Loc), MS E rs s H1 locs1 → Fm rs' H H1 → Po v H1 → V p l e R s m args below meth c Q nL H1 locs1 k' n' pc' L (v.toList ++ st)) : V p l e R s m args below meth c Q nL H locs k n pc L st0 := by
  subst hp; subst hk'; subst hn'
  obtain ⟨r1, r2, r3⟩ := room_okM hR
  intro ls hls
  have cw : CallW R s args own y.cls idx y cy my ry (.code y cy my ry :: WA) (rmL Lc mc ms) mc ms N := ⟨kv_callB X hk hl rfl rfl r1, X.2.2.2.2 _ hi.1, X.2.2.2.2 _ hi.2⟩
  exact mu_call (va_runV (As := As) (rest := st) X (hc1 H.size) cw ⟨Pm_blind, va_recv (q := (y.cls, T, Nf)) hM.C.K hP hc he, fun U hU hW => ⟨rfl, by rw [hU]; exact hM.C.warm hW, by rw [hU], fun q z => hM.z (hs q z), by rw [hU]; exact hpr⟩⟩ rfl hn hls.1 hst (lv_room r3) hdg r2) hM hs (fun v H1 locs1 a b c => kk v H1 locs1 a b c ls hls)
theorem v_muS (X : CF p m c cc nL s args own) (hM : MS E rs s H locs) (hc1 : Mu l y cy my ry Lc mc ms E rs' As Pr Po) (hk : KV y cy my ry N) (hi : Cond.static y ∈ WA) (hl : Cond.methodLink own idx y ∈ WA) (hst : st0 = As.reverse ++ st) (hn : As.length = N)
    (hR : (Nat.ble (Lc + 1) R.frames && Nat.ble (8 + (my + 11) + 60 * Lc) R.locals && Nat.ble (k + mc) R.cells && Nat.ble (n + ms) R.slots && Nat.ble (st.map fun v => v.category).sum 8) = true) (hdg : decode cc pc = .ok (.invokestatic idx, 3)) (pc' : Nat) (hp : pc + 3 = pc') (hk' : k + mc = k') (hn' : n + ms = n') (hs : ∀ q, Fs rs' q → Fr rs s.heap.size q) (hpr : Pr H)
    (kk : ∀ (v : Option Value) (H1 : Heap) (locs1 : List Loc), MS E rs s H1 locs1 → Fm rs' H H1 → Po v H1 → V p l e R s m args below meth c Q nL H1 locs1 k' n' pc' L (v.toList ++ st)) : V p l e R s m args below meth c Q nL H locs k n pc L st0 := by
  subst hp; subst hk'; subst hn'
  obtain ⟨r1, r2, r3⟩ := room_okM hR
  intro ls hls
  exact mu_call (va_runS (As := As) (rest := st) X (hc1 H.size) ⟨kv_callB X hk hl rfl rfl r1, X.2.2.2.2 _ hi⟩ ⟨Pm_blind, fun U hU hW => ⟨rfl, by rw [hU]; exact hM.C.warm hW, by rw [hU], fun q z => hM.z (hs q z), by rw [hU]; exact hpr⟩⟩ rfl hn hls.1 hst (lv_room r3) hdg r2) hM hs (fun v H1 locs1 a b c => kk v H1 locs1 a b c ls hls)
/-- a constructor -/
theorem v_muI (X : CF p m c cc nL s args own) (hM : MS E rs s H locs) (hc1 : Mu l y cy my ry Lc mc ms E rs' (.ref b :: As) Pr Po) (hry : ry = none) (hk : KV y cy my ry N) (hi : Cond.instanceMethod y ∈ WA) (hnm : y.name = "<init>") (hl : Cond.methodLink own idx y ∈ WA) (hst : st0 = As.reverse ++ .ref b :: st) (hn : As.length = N)
    (hR : (Nat.ble (Lc + 1) R.frames && Nat.ble (8 + (my + 11) + 60 * Lc) R.locals && Nat.ble (k + mc) R.cells && Nat.ble (n + ms) R.slots && Nat.ble (st.map fun v => v.category).sum 8) = true) (hdg : decode cc pc = .ok (.invokespecial idx, 3)) (pc' : Nat) (hp : pc + 3 = pc') (hk' : k + mc = k') (hn' : n + ms = n') (hs : ∀ q, Fs rs' q → Fr rs s.heap.size q) (hpr : Pr H)
    (kk : ∀ (v : Option Value) (H1 : Heap) (locs1 : List Loc), MS E rs s H1 locs1 → Fm rs' H H1 → Po v H1 → V p l e R s m args below meth c Q nL H1 locs1 k' n' pc' L (v.toList ++ st)) : V p l e R s m args below meth c Q nL H locs k n pc L st0 := by
  subst hp; subst hk'; subst hn'; subst hry
  obtain ⟨r1, r2, r3⟩ := room_okM hR
  intro ls hls
  exact mu_call (va_runI (As := As) (rest := st) X (hc1 H.size) ⟨kv_callB X hk hl rfl rfl r1, hnm, X.2.2.2.2 _ hi⟩ ⟨Pm_blind, fun U hU hW => ⟨rfl, by rw [hU]; exact hM.C.warm hW, by rw [hU], fun q z => hM.z (hs q z), by rw [hU]; exact hpr⟩⟩ rfl hn hls.1 hst (lv_room r3) hdg r2) hM hs (fun v H1 locs1 a b c => kk v H1 locs1 a b c ls hls)
theorem v_muIN {host : String} (X : CF p m c cc nL s args own) (hM : MS E rs s H locs) (hc1 : Mu l y cy my ry Lc mc ms E rs' (.ref b :: As) Pr Po) (hry : ry = none) (hk : KV y cy my ry N) (hi : Cond.instanceMethod y ∈ WA) (hnm : y.name = "<init>") (hl : Cond.methodLinkNest own idx y host ∈ WN) (hst : st0 = As.reverse ++ .ref b :: st) (hn : As.length = N)
    (hR : (Nat.ble (Lc + 1) R.frames && Nat.ble (8 + (my + 11) + 60 * Lc) R.locals && Nat.ble (k + mc) R.cells && Nat.ble (n + ms) R.slots && Nat.ble (st.map fun v => v.category).sum 8) = true) (hdg : decode cc pc = .ok (.invokespecial idx, 3)) (pc' : Nat) (hp : pc + 3 = pc') (hk' : k + mc = k') (hn' : n + ms = n') (hs : ∀ q, Fs rs' q → Fr rs s.heap.size q) (hpr : Pr H)
    (kk : ∀ (v : Option Value) (H1 : Heap) (locs1 : List Loc), MS E rs s H1 locs1 → Fm rs' H H1 → Po v H1 → V p l e R s m args below meth c Q nL H1 locs1 k' n' pc' L (v.toList ++ st)) : V p l e R s m args below meth c Q nL H locs k n pc L st0 := by
  subst hp; subst hk'; subst hn'; subst hry
  obtain ⟨r1, r2, r3⟩ := room_okM hR
  intro ls hls
  have cb : va_CN R s args own idx y host cy my none (.code y cy my none :: WA) (rmL Lc mc ms) mc ms N := va_cnB N (Ts := .code y cy my none :: WA) (fun w hw => (List.mem_cons.mp hw).elim (fun q => by rw [q]; exact X.2.2.2.2 _ hk.1) (X.2.2.2.2 w)) (WA_code hk.1) rfl rfl rfl (hM.C.2.1.2 _ hl) (X.2.2.2.2 _ hk.2.1) hk.2.2 r1
  exact mu_call (va_runIN (As := As) (rest := st) X (hc1 H.size) ⟨cb, hnm, X.2.2.2.2 _ hi⟩ ⟨Pm_blind, fun U hU hW => ⟨rfl, by rw [hU]; exact hM.C.warm hW, by rw [hU], fun q z => hM.z (hs q z), by rw [hU]; exact hpr⟩⟩ rfl hn hls.1 hst (lv_room r3) hdg r2) hM hs (fun v H1 locs1 a b c => kk v H1 locs1 a b c ls hls)
end MUT
/-! stores -/
theorem st_int {D : va_G} {cl : List vw_C} {cA : ClassId} {n j a : Nat} {f : Nat → Int32} {x : Int32} {H1 : Heap} (e : H1[a]? = some ((vp_cell cA (n, .inl f)).setSlot j (.int x))) : va_at D cl (a, .inl (cA, n, .inl (upd f j x))) H1 := by
  show H1[a]? = some (vp_cell _ _)
  rw [e, vp_cell_i, vp_cell_i, arrV_store]
  congr 2
  funext q
  by_cases hq : q = j
  · subst hq
    simp [updV, upd]
  · simp [updV, upd, hq]
theorem PR.set {E : Nat → Nat → Nat} {b q0 a : Nat} {ws : va_W} {e0 e : va_E} {H H1 : Heap} (h : PR E b ws H) (he : ws[q0]? = some (a, e0)) (hat : va_at (zD E) vwCl (a, e) H1) (oq : ∀ q : Nat, q ≠ a → H1[q]? = H[q]?) : PR E b (ws.set q0 (a, e)) H1 := by
  refine ⟨va_P.set h.1 h.nd he hat oq, fun k q hk => ?_⟩
  by_cases hq : q0 = k
  · subst hq
    have hl : q0 < ws.length := (List.getElem?_eq_some_iff.mp he).1
    rw [List.getElem?_set_self hl] at hk
    cases hk
    have y := h.2 q0 (a, e0) he
    exact y
  · rw [List.getElem?_set_ne hq] at hk
    exact h.2 k q hk
theorem MS.put {E : Nat → Nat → Nat} {rs : List (Nat × Nat)} {s : State} {H H1 : Heap} {locs : List Loc} {a i : Nat} (h : MS E rs s H locs) (z : H1.size = H.size) (oq : ∀ q : Nat, q ≠ a → H1[q]? = H[q]?) (hin : Fr rs s.heap.size a) : MS E rs s H1 (locs ++ [⟨a, i⟩]) :=
  h.mut (cell1 z oq) (fun q hq => by rw [hq.one]; exact hin) (fun q hq => by
    have e := List.mem_singleton.mp hq
    subst e
    exact Or.inl Fs.self)
section STORE
variable {p : Program} {l : Launch} {e : Env} {R : Room} {s : State} {m : MethodId} {args : Array Value} {below : List Frame} {meth : Method} {c : Code} {Q : State → Prop} {nL : Nat} {H : Heap} {locs : List Loc} {k n : Nat} {pc : Nat} {L L' : List (Nat × Value)} {st : List Value} {cc : ByteArray} {own : String} {E : Nat → Nat → Nat} {rs : List (Nat × Nat)} {ws : va_W} {a b : Nat}
theorem v_iast (X : CF p m c cc nL s args own) (hM : MS E rs s H locs) (hP : PR E b ws H) (q0 : Nat) {N : Nat} {g : Int → Int} (he : ws[q0]? = some (a, .inl (E 102 0, N, .inl (zA g)))) {i x : Int} (h0 : 0 ≤ i) (h1 : i < N) (hN : N < 2147483648) (hin : Fr rs s.heap.size a) (hdg : decode cc pc = .ok (.iastore, 1)) (pc' : Nat) (hp : pc + 1 = pc') {ws' : va_W} (hw : ws.set q0 (a, .inl (E 102 0, N, .inl (zA (updZ g i x)))) = ws')
    (kk : ∀ (H1 : Heap) (locs1 : List Loc), H1.size = H.size → MS E rs s H1 locs1 → Fm [(a, 1)] H H1 → PR E b ws' H1 → V p l e R s m args below meth c Q nL H1 locs1 k n pc' L st) : V p l e R s m args below meth c Q nL H locs k n pc L (.int (zI x) :: .int (zI i) :: .ref a :: st) := by
  subst hp; subst hw
  intro ls hls
  refine W.iast X.1 X.2.1 (hP.1 q0 _ he) ((hM.C.K.2 0 _ rfl).1 N (fun j => .int (zA g j))) (fun q => by cases q) (by show ¬ (_ < 0 ∨ (arrV _ _ _).slots.size ≤ _); rw [arrV_size]; exact zI_in h0 h1 hN) rfl rfl hdg fun H1 e z oq => ?_
  have hat := st_int (D := zD E) (cl := vwCl) e
  rw [zA_upd h0 (by omega)] at hat
  exact kk H1 _ z (hM.put z oq hin) (cell1 z oq) (hP.set he hat oq) ls hls
theorem v_bast (X : CF p m c cc nL s args own) (hM : MS E rs s H locs) (hP : PR E b ws H) (q0 : Nat) {N : Nat} {g : Int → Int} (he : ws[q0]? = some (a, .inl (E 102 2, N, .inl (zA g)))) {i x : Int} (h0 : 0 ≤ i) (h1 : i < N) (hN : N < 2147483648) (hx : vp_nar .byte (zI x) = zI x) (hin : Fr rs s.heap.size a) (hdg : decode cc pc = .ok (.bastore, 1)) (pc' : Nat) (hp : pc + 1 = pc') {ws' : va_W} (hw : ws.set q0 (a, .inl (E 102 2, N, .inl (zA (updZ g i x)))) = ws')
    (kk : ∀ (H1 : Heap) (locs1 : List Loc), H1.size = H.size → MS E rs s H1 locs1 → Fm [(a, 1)] H H1 → PR E b ws' H1 → V p l e R s m args below meth c Q nL H1 locs1 k n pc' L st) : V p l e R s m args below meth c Q nL H locs k n pc L (.int (zI x) :: .int (zI i) :: .ref a :: st) := by
  subst hp; subst hw
  intro ls hls
  refine W.bast X.1 X.2.1 (hP.1 q0 _ he) ((hM.C.K.2 2 _ rfl).1 N (fun j => .int (zA g j))) (fun q => by cases q) (by show ¬ (_ < 0 ∨ (arrV _ _ _).slots.size ≤ _); rw [arrV_size]; exact zI_in h0 h1 hN) rfl rfl hdg fun H1 e z oq => ?_
  have hat := st_int (D := zD E) (cl := vwCl) (x := vp_nar .byte (zI x)) e
  rw [hx, zA_upd h0 (by omega)] at hat
  exact kk H1 _ z (hM.put z oq hin) (cell1 z oq) (hP.set he hat oq) ls hls
variable {ref C : String} {T : u_T} {N ci index : Nat}
/-- what a store into a field wants of the class's table -/
def FT (C : String) (T : u_T) (N : Nat) (ty0 : Nat → FieldType) : Prop := (∀ w ∈ u_ws C T N, w ∈ WA) ∧ (∀ k, k < N → parseFieldDescriptor (T k).2.2.1 = some (ty0 k)) ∧ (∀ a, a < N → ∀ b, b < N → a ≠ b → (T a).2.1 ≠ (T b).2.1)
theorem st_fld {ty0 : Nat → FieldType} (X : CF p m c cc nL s args own) (hC : Cx E s H) (hP : PR E b ws H) (hft : FT C T N ty0) (q0 : Nat) {fs : List Value} (he : ws[q0]? = some (a, .inr (ci, fs))) (hc : vwCl[ci]? = some (C, T, N)) (kf : Nat) (hk : kf < N) {v : Value} (hl : kf < fs.length) {cf fi : Nat} {kC : Class} {f : Field} (hi : s.fieldFound? (T kf).1 (T kf).2.1 (T kf).2.2.1 = some (cf, kC, fi, f)) (hsl : f.slot = E ci kf) {H1 : Heap} {cell : Cell} (q1 : H[a]? = some cell) (q2 : cell.cls = E 100 ci) (q3 : cell.vm = .none) (q4 : ∀ k, k < N → cell.slots[E ci k]? = some (vp_V fs k)) (e1 : H1[a]? = some (cell.setSlot f.slot v)) (oq : ∀ q : Nat, q ≠ a → H1[q]? = H[q]?) : PR E b (ws.set q0 (a, .inr (ci, fs.set kf v))) H1 := by
  have hap := va_apart (own := own) X.2.2.2.2 hft.1 ty0 hft.2.1 hft.2.2 hC.K hc
  rw [hsl] at e1
  exact hP.set he ⟨_, hc, t_OB.to (V := updV (vp_V fs) kf v) ⟨_, e1, q2, q3, t_set q4 hap hk v⟩ (fun j _ => vp_updV_set hl v j)⟩ oq
theorem v_putf {ty0 : Nat → FieldType} (X : CF p m c cc nL s args own) (hM : MS E rs s H locs) (hP : PR E b ws H) (hft : FT C T N ty0) (q0 : Nat) {fs : List Value} (he : ws[q0]? = some (a, .inr (ci, fs))) (hc : vwCl[ci]? = some (C, T, N)) (kf : Nat) (hk : kf < N) (hlink : Cond.fieldLink own index ref (T kf).2.1 (T kf).2.2.1 ∈ WA) (hsame : ∀ x, s.fieldFound? (T kf).1 (T kf).2.1 (T kf).2.2.1 = some x → s.fieldFound? ref (T kf).2.1 (T kf).2.2.1 = some x) (hfin : (T kf).2.2.2 = false) {v : Value} (hnr : narrow (ty0 kf) v = v) (hfit : fits (ty0 kf) v = true) (hl : kf < fs.length) (hin : Fr rs s.heap.size a) (hdg : decode cc pc = .ok (.putfield index, 3)) (pc' : Nat) (hp : pc + 3 = pc') {ws' : va_W} (hw : ws.set q0 (a, .inr (ci, fs.set kf v)) = ws')
    (kk : ∀ (H1 : Heap) (locs1 : List Loc), H1.size = H.size → MS E rs s H1 locs1 → Fm [(a, 1)] H H1 → PR E b ws' H1 → V p l e R s m args below meth c Q nL H1 locs1 k n pc' L st) : V p l e R s m args below meth c Q nL H locs k n pc L (v :: .ref a :: st) := by
  subst hp; subst hw
  intro ls hls
  obtain ⟨r, h1, cell, q1, q2, q3, q4⟩ := hP.1 q0 _ he
  have hr : r = (C, T, N) := Option.some.inj (h1.symm.trans hc)
  subst hr
  obtain ⟨hS, hfc, kC, hkC, hkind⟩ := hM.C.K.1 ci _ hc
  obtain ⟨cf, kf', fi, f, hi, hsl⟩ := hS kf hk
  have hlay := X.2.2.2.2 _ (hft.1 _ (u_in_lay hk))
  unfold u_lay at hlay
  rw [if_neg (by rw [hfin]; decide)] at hlay
  have hst := (u_facts hfc hkC (u_lays X.2.2.2.2 hft.1 hk) hi).1
  have h6 := u_store hfc hkC hkind hlay hi (hft.2.1 kf hk) hnr hfit
  refine W.putK X.1 X.2.1 (f := f) ⟨X.2.2.2.1, X.2.2.2.2 _ hlink, ⟨_, _, _, hsame _ hi⟩, hst⟩ (by rw [q2]; exact h6) q1 q3 (by rw [hsl]; exact k2_hasslot (q4 kf hk)) rfl rfl hdg fun H1 e1 e2 e3 => ?_
  exact kk H1 _ e2 (hM.put e2 e3 hin) (cell1 e2 e3) (st_fld X hM.C hP hft q0 he hc kf hk hl hi hsl q1 q2 q3 q4 e1 e3) ls hls
theorem v_putfN {host : String} {ty0 : Nat → FieldType} (X : CF p m c cc nL s args own) (hM : MS E rs s H locs) (hP : PR E b ws H) (hft : FT C T N ty0) (q0 : Nat) {fs : List Value} (he : ws[q0]? = some (a, .inr (ci, fs))) (hc : vwCl[ci]? = some (C, T, N)) (kf : Nat) (hk : kf < N) (hlink : Cond.fieldLinkNest own index ref (T kf).2.1 (T kf).2.2.1 host ∈ WN) (hsame : ∀ x, s.fieldFound? (T kf).1 (T kf).2.1 (T kf).2.2.1 = some x → s.fieldFound? ref (T kf).2.1 (T kf).2.2.1 = some x) (hfin : (T kf).2.2.2 = false) {v : Value} (hnr : narrow (ty0 kf) v = v) (hfit : fits (ty0 kf) v = true) (hl : kf < fs.length) (hin : Fr rs s.heap.size a) (hdg : decode cc pc = .ok (.putfield index, 3)) (pc' : Nat) (hp : pc + 3 = pc') {ws' : va_W} (hw : ws.set q0 (a, .inr (ci, fs.set kf v)) = ws')
    (kk : ∀ (H1 : Heap) (locs1 : List Loc), H1.size = H.size → MS E rs s H1 locs1 → Fm [(a, 1)] H H1 → PR E b ws' H1 → V p l e R s m args below meth c Q nL H1 locs1 k n pc' L st) : V p l e R s m args below meth c Q nL H locs k n pc L (v :: .ref a :: st) := by
  subst hp; subst hw
  intro ls hls
  obtain ⟨r, h1, cell, q1, q2, q3, q4⟩ := hP.1 q0 _ he
  have hr : r = (C, T, N) := Option.some.inj (h1.symm.trans hc)
  subst hr
  obtain ⟨hS, hfc, kC, hkC, hkind⟩ := hM.C.K.1 ci _ hc
  obtain ⟨cf, kf', fi, f, hi, hsl⟩ := hS kf hk
  have hlay := X.2.2.2.2 _ (hft.1 _ (u_in_lay hk))
  unfold u_lay at hlay
  rw [if_neg (by rw [hfin]; decide)] at hlay
  have hst := (u_facts hfc hkC (u_lays X.2.2.2.2 hft.1 hk) hi).1
  have h6 := u_store hfc hkC hkind hlay hi (hft.2.1 kf hk) hnr hfit
  refine va_WputK X.1 X.2.1 (f := f) X.2.2.2.1 (hM.C.nest hlink) (hsame _ hi) hst (by rw [q2]; exact h6) q1 q3 (by rw [hsl]; exact k2_hasslot (q4 kf hk)) rfl rfl hdg fun H1 e1 e2 e3 => ?_
  exact kk H1 _ e2 (hM.put e2 e3 hin) (cell1 e2 e3) (st_fld X hM.C hP hft q0 he hc kf hk hl hi hsl q1 q2 q3 q4 e1 e3) ls hls
/-- a final field, in the constructor -/
theorem v_putF {ty0 : Nat → FieldType} (X : CF p m c cc nL s args own) (hM : MS E rs s H locs) (hP : PR E b ws H) (hft : FT C T N ty0) (q0 : Nat) {fs : List Value} (he : ws[q0]? = some (a, .inr (ci, fs))) (hc : vwCl[ci]? = some (C, T, N)) (kf : Nat) (hk : kf < N) (hlink : Cond.fieldLink own index ref (T kf).2.1 (T kf).2.2.1 ∈ WA) (hsame : ∀ x, s.fieldFound? (T kf).1 (T kf).2.1 (T kf).2.2.1 = some x → s.fieldFound? ref (T kf).2.1 (T kf).2.2.1 = some x) (hfin : (T kf).2.2.2 = true) (hin2 : meth.name = "<init>") (hdecl : (T kf).1 = own) {v : Value} (hnr : narrow (ty0 kf) v = v) (hfit : fits (ty0 kf) v = true) (hl : kf < fs.length) (hin : Fr rs s.heap.size a) (hdg : decode cc pc = .ok (.putfield index, 3)) (pc' : Nat) (hp : pc + 3 = pc') {ws' : va_W} (hw : ws.set q0 (a, .inr (ci, fs.set kf v)) = ws')
    (kk : ∀ (H1 : Heap) (locs1 : List Loc), H1.size = H.size → MS E rs s H1 locs1 → Fm [(a, 1)] H H1 → PR E b ws' H1 → V p l e R s m args below meth c Q nL H1 locs1 k n pc' L st) : V p l e R s m args below meth c Q nL H locs k n pc L (v :: .ref a :: st) := by
  subst hp; subst hw
  intro ls hls
  obtain ⟨r, h1, cell, q1, q2, q3, q4⟩ := hP.1 q0 _ he
  have hr : r = (C, T, N) := Option.some.inj (h1.symm.trans hc)
  subst hr
  obtain ⟨hS, hfc, kC, hkC, hkind⟩ := hM.C.K.1 ci _ hc
  obtain ⟨cf, kf', fi, f, hi, hsl⟩ := hS kf hk
  have hlay := X.2.2.2.2 _ (hft.1 _ (u_in_lay hk))
  unfold u_lay at hlay
  rw [if_pos hfin] at hlay
  have hst := (u_facts hfc hkC (u_lays X.2.2.2.2 hft.1 hk) hi).1
  have hcf : m.cls = cf := by
    obtain ⟨_, _, c', _, _, _, -, -, hf', -, -, -, hown2, -⟩ := Cond.laysFinal_spec hlay
    have e1 : c' = cf := by have := hi.symm.trans hf'; simp at this; exact this.1.symm
    rw [hdecl] at hown2
    rw [← e1]; exact Option.some.inj (X.2.2.2.1.symm.trans hown2)
  have h6 := u_fits hfc hkC hkind (Or.inr hlay) hi (hft.2.1 kf hk) hnr hfit
  refine W.putFinK X.1 X.2.1 X.2.2.2.1 (X.2.2.2.2 _ hlink) (hsame _ hi) hst hcf hin2 (by rw [q2]; exact h6) q1 q3 (by rw [hsl]; exact k2_hasslot (q4 kf hk)) rfl rfl hdg fun H1 e1 e2 e3 => ?_
  exact kk H1 _ e2 (hM.put e2 e3 hin) (cell1 e2 e3) (st_fld X hM.C hP hft q0 he hc kf hk hl hi hsl q1 q2 q3 q4 e1 e3) ls hls
theorem cell0 {H H1 : Heap} {o : Nat} (ho : o = H.size) (z : H1.size = o + 1) (oq : ∀ q : Nat, q < o → H1[q]? = H[q]?) : Fm [] H H1 := ⟨by omega, fun q h _ => oq q (by omega)⟩
/-- a new object: its fields as they are born -/
theorem v_new {ty : Nat → FieldType} (X : CF p m c cc nL s args own) (hM : MS E rs s H locs) (hft : FT C T N ty) (hcl : Cond.classLink own index C ∈ WA) (hinst : Cond.instantiable C N ∈ WA) (hini : Cond.initialized C ∈ WA) (hc : vwCl[ci]? = some (C, T, N)) {fs : List Value} (hfs : ∀ j, j < N → defaultValue (ty j) = vp_V fs j) (hcells : (Nat.ble (k + 1) R.cells && Nat.ble (n + N) R.slots) = true) (hdg : decode cc pc = .ok (.new index, 3)) (pc' : Nat) (hp : pc + 3 = pc') {k' n' : Nat} (hk' : k + 1 = k') (hn' : n + N = n')
    (kk : ∀ (o : Nat) (H1 : Heap), o = H.size → H1.size = o + 1 → MS E rs s H1 locs → Fm [] H H1 → PR E o [(o, .inr (ci, fs))] H1 → V p l e R s m args below meth c Q nL H1 locs k' n' pc' L (.ref o :: st)) : V p l e R s m args below meth c Q nL H locs k n pc L st := by
  subst hp; subst hk'; subst hn'
  simp only [Bool.and_eq_true] at hcells
  intro ls hls
  have hKn := hM.C.K.1 ci _ hc
  refine W.newcK X.1 X.2.1 X.2.2.2.1 (X.2.2.2.2 _ hcl) (X.2.2.2.2 _ hinst) (X.2.2.2.2 _ hini) rfl hdg (Nat.le_of_ble_eq_true hcells.1) (Nat.le_of_ble_eq_true hcells.2) hKn.2.1 rfl fun H1 kC hkC e1 z1 o1 => ?_
  have hF : Fm [] H H1 := cell0 rfl z1 o1
  have hM1 := hM.mut (L := []) hF (fun q hq => hq.elim) (fun q hq => by cases hq)
  rw [List.append_nil] at hM1
  refine kk H.size H1 rfl z1 hM1 hF ⟨fun j x hx => ?_, fun j x hx => ?_⟩ ls hls
  · have hz : j < 1 := (List.getElem?_eq_some_iff.mp hx).1
    rw [show j = 0 by omega] at hx
    cases hx
    exact ⟨_, hc, (u_born ty X.2.2.2.2 hft.1 hKn hkC e1 hft.2.1).to hfs⟩
  · have hz : j < 1 := (List.getElem?_eq_some_iff.mp hx).1
    rw [show j = 0 by omega] at hx
    cases hx
    exact (by omega : H.size = H.size + j)
/-- a new row of numbers, all 0: ints, chars, bytes by t0 -/
theorem v_newa (X : CF p m c cc nL s args own) (hM : MS E rs s H locs) {atype : ArrayType} {ty : FieldType} (hty : newarray.typeOf atype = ty) (hdv : defaultValue ty = .int 0) (harr : Cond.arrayClass ty ∈ WA) (t0 : Nat) {cA : ClassId} (ht : (tysA E)[t0]? = some (cA, ty)) {N : Nat} {z : Int} (hz : z = N) (hN : N < 2147483648) (hbytes : N * componentBytes ty ≤ 536870912) (hcells : k + 1 ≤ R.cells ∧ n + N ≤ R.slots) (hdg : decode cc pc = .ok (.newarray atype, 2)) (pc' : Nat) (hp : pc + 2 = pc') {k' n' : Nat} (hk' : k + 1 = k') (hn' : n + N = n')
    (kk : ∀ (o : Nat) (H1 : Heap), o = H.size → H1.size = o + 1 → MS E rs s H1 locs → Fm [] H H1 → PR E o [(o, .inl (cA, N, .inl (zA fun _ => 0)))] H1 → V p l e R s m args below meth c Q nL H1 locs k' n' pc' L (.ref o :: st)) : V p l e R s m args below meth c Q nL H locs k n pc L (.int (zI z) :: st) := by
  subst hp; subst hk'; subst hn'; subst hty; subst hz
  intro ls hls
  refine va_newaK X.1 X.2.1 (X.2.2.2.2 _ harr) rfl hdg rfl (n := zI N) (N := N) (by rw [zI_0, zI_lt (by omega) (by omega)]; omega) (by rw [zI_clamp (by omega) (by omega)]; omega) hbytes hcells.1 hcells.2 rfl fun H1 cA' e1 z1 o1 hAr hNm => ?_
  have hF : Fm [] H H1 := cell0 rfl z1 o1
  have hM1 := hM.mut (L := []) hF (fun q hq => hq.elim) (fun q hq => by cases hq)
  rw [List.append_nil] at hM1
  have hcA : cA' = cA := by
    have h2 := (hM.C.K.2 t0 _ ht).2
    cases atype <;> exact Option.some.inj (hNm.symm.trans h2)
  subst hcA
  refine kk H.size H1 rfl z1 hM1 hF ⟨fun j x hx => ?_, fun j x hx => ?_⟩ ls hls
  · have hz : j < 1 := (List.getElem?_eq_some_iff.mp hx).1
    rw [show j = 0 by omega] at hx
    cases hx
    show H1[H.size]? = some (vp_cell _ _)
    rw [e1, hdv]
    rfl
  · have hz : j < 1 := (List.getElem?_eq_some_iff.mp hx).1
    rw [show j = 0 by omega] at hx
    cases hx
    exact (by omega : H.size = H.size + j)
end STORE
