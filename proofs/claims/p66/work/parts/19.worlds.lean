def rowW (E : Nat → Nat → Nat) (b : Nat) (N : Nat) (g : Int → Int) : va_W := [(b, .inr (9, [.ref (b + 1)])), (b + 1, .inl (E 102 0, N, .inl (zA g)))]
def groupsW (E : Nat → Nat → Nat) (b : Nat) (g : Int → Int) : va_W := [(b, .inr (6, [.ref (b + 1)])), (b + 1, .inr (9, [.ref (b + 2)])), (b + 2, .inl (E 102 0, 8, .inl (zA g)))]
def courtW (E : Nat → Nat → Nat) (b : Nat) (c : Nat → Int → Int) : va_W := [(b, .inr (4, [.int (zI (c 0 0)), .int (zI (c 0 1)), .int (zI (c 0 2)), .int (zI (c 0 3)), .ref (b + 1), .ref (b + 3), .ref (b + 5), .ref (b + 7), .ref (b + 9), .ref (b + 11), .ref (b + 13), .ref (b + 15), .ref (b + 17), .ref (b + 19), .ref (b + 21), .ref (b + 23), .ref (b + 25)])), (b + 1, .inr (9, [.ref (b + 2)])), (b + 2, .inl (E 102 0, 16, .inl (zA (c 1)))), (b + 3, .inr (9, [.ref (b + 4)])), (b + 4, .inl (E 102 0, 16, .inl (zA (c 2)))), (b + 5, .inr (9, [.ref (b + 6)])), (b + 6, .inl (E 102 0, 16, .inl (zA (c 3)))), (b + 7, .inr (9, [.ref (b + 8)])), (b + 8, .inl (E 102 0, 16, .inl (zA (c 4)))), (b + 9, .inr (9, [.ref (b + 10)])), (b + 10, .inl (E 102 0, 16, .inl (zA (c 5)))), (b + 11, .inr (9, [.ref (b + 12)])), (b + 12, .inl (E 102 0, 16, .inl (zA (c 6)))), (b + 13, .inr (9, [.ref (b + 14)])), (b + 14, .inl (E 102 0, 96, .inl (zA (c 7)))), (b + 15, .inr (9, [.ref (b + 16)])), (b + 16, .inl (E 102 0, 128, .inl (zA (c 8)))), (b + 17, .inr (9, [.ref (b + 18)])), (b + 18, .inl (E 102 0, 128, .inl (zA (c 9)))), (b + 19, .inr (9, [.ref (b + 20)])), (b + 20, .inl (E 102 0, 128, .inl (zA (c 10)))), (b + 21, .inr (9, [.ref (b + 22)])), (b + 22, .inl (E 102 0, 8, .inl (zA (c 11)))), (b + 23, .inr (9, [.ref (b + 24)])), (b + 24, .inl (E 102 0, 6, .inl (zA (c 12)))), (b + 25, .inr (6, [.ref (b + 26)])), (b + 26, .inr (9, [.ref (b + 27)])), (b + 27, .inl (E 102 0, 8, .inl (zA (c 13))))]
def docketW (E : Nat → Nat → Nat) (b : Nat) (c : Nat → Int → Int) : va_W := [(b, .inr (5, [.ref (b + 1), .int (zI (c 0 1))])), (b + 1, .inr (9, [.ref (b + 2)])), (b + 2, .inl (E 102 0, 16, .inl (zA (c 1))))]
def searchW (E : Nat → Nat → Nat) (b : Nat) (c : Nat → Int → Int) : va_W := [(b, .inr (10, [.ref (b + 1), .ref (b + 3), .int (zI (c 0 2))])), (b + 1, .inr (9, [.ref (b + 2)])), (b + 2, .inl (E 102 0, 8, .inl (zA (c 1)))), (b + 3, .inr (9, [.ref (b + 4)])), (b + 4, .inl (E 102 0, 8, .inl (zA (c 2))))]
def prowsW (E : Nat → Nat → Nat) (b : Nat) (c : Nat → Int → Int) : va_W := [(b, .inr (9, [.ref (b + 1)])), (b + 1, .inl (E 102 0, 8, .inl (zA (c 1)))), (b + 2, .inr (9, [.ref (b + 3)])), (b + 3, .inl (E 102 0, 8, .inl (zA (c 2)))), (b + 4, .inr (9, [.ref (b + 5)])), (b + 5, .inl (E 102 0, 8, .inl (zA (c 3)))), (b + 6, .inr (9, [.ref (b + 7)])), (b + 7, .inl (E 102 0, 8, .inl (zA (c 4)))), (b + 8, .inr (9, [.ref (b + 9)])), (b + 9, .inl (E 102 0, 8, .inl (zA (c 5))))]
def HF (E : Nat → Nat → Nat) (b n : Nat) (hc : Nat → Nat → Int → Int) (H : Heap) : Prop := ∀ j, j < n → PR E (b + 28 * j) (courtW E (b + 28 * j) (hc j)) H
theorem HF.kept {E : Nat → Nat → Nat} {b n : Nat} {hc : Nat → Nat → Int → Int} {H H1 : Heap} {rs : List (Nat × Nat)} (h : HF E b n hc H) (hF : Fm rs H H1) (hd : ∀ q, b ≤ q → q < b + 28 * n → ¬ Fs rs q) : HF E b n hc H1 := fun j hj => (h j hj).kept hF 28 rfl (fun q h1 h2 => hd q (by omega) (by omega))
theorem HF.upd {E : Nat → Nat → Nat} {b n i : Nat} {hc : Nat → Nat → Int → Int} {co : Nat → Int → Int} {H H1 : Heap} (h0 : HF E b n hc H) (hF : Fm [(b + 28 * i, 28)] H H1) (hp : PR E (b + 28 * i) (courtW E (b + 28 * i) co) H1) : HF E b n (fun j => if j = i then co else hc j) H1 := by
  intro j hj
  by_cases e : j = i
  · subst e
    show PR E (b + 28 * j) (courtW E (b + 28 * j) (if j = j then co else hc j)) H1
    rw [if_pos rfl]
    exact hp
  · show PR E (b + 28 * j) (courtW E (b + 28 * j) (if j = i then co else hc j)) H1
    rw [if_neg e]
    exact (h0 j hj).kept hF 28 rfl (fsd (by omega))
/-- the n first places of the ring of courts, from b on -/
def hisA (b n : Nat) : Nat → Option Nat := fun j => if j < n then some (b + 28 * j) else none
theorem hisA_up {b n : Nat} : va_up (hisA b n) n (some (b + 28 * n)) = hisA b (n + 1) := by
  funext j
  unfold va_up hisA
  by_cases h : j = n
  · subst h
    simp
  · by_cases h2 : j < n
    · rw [if_neg h, if_pos h2, if_pos (by omega)]
    · rw [if_neg h, if_neg h2, if_neg (by omega)]
section HIS
variable {p : Program} {l : Launch} {e : Env} {R : Room} {s : State} {m : MethodId} {args : Array Value} {below : List Frame} {meth : Method} {c : Code} {Q : State → Prop} {nL : Nat} {H : Heap} {locs : List Loc} {k n : Nat} {pc : Nat} {L L' : List (Nat × Value)} {st : List Value} {cc : ByteArray} {own : String} {E : Nat → Nat → Nat} {rs : List (Nat × Nat)}
theorem v_newq {index : Nat} (X : CF p m c cc nL s args own) (hM : MS E rs s H locs) (hcl : Cond.classLink own index RX0 ∈ WA) {N : Nat} {z : Int} (hz : z = N) (hN : N < 2147483648) (hbytes : N * 4 ≤ 536870912) (hcells : k + 1 ≤ R.cells ∧ n + N ≤ R.slots) (hdg : decode cc pc = .ok (.anewarray index, 3)) (pc' : Nat) (hp : pc + 3 = pc') {k' n' : Nat} (hk' : k + 1 = k') (hn' : n + N = n')
    (kk : ∀ (o : Nat) (H1 : Heap), o = H.size → H1.size = o + 1 → MS E rs s H1 locs → Fm [] H H1 → PR E o [(o, .inl (E 102 3, N, .inr (.inr (.inr (.inr (fun _ => none))))))] H1 → V p l e R s m args below meth c Q nL H1 locs k' n' pc' L (.ref o :: st)) : V p l e R s m args below meth c Q nL H locs k n pc L (.int (zI z) :: st) := by
  subst hp; subst hk'; subst hn'; subst hz
  intro ls hls
  have ec : (zI (N : Int)).toNatClampNeg = N := by rw [zI_clamp (by omega) (by omega)]; omega
  refine W.anew X.1 X.2.1 X.2.2.2.1 (X.2.2.2.2 _ hcl) (va_AO.use hM.C.2.2.2.1.1) rfl hdg (n := zI N) (rest := st) rfl (by rw [zI_0, zI_lt (by omega) (by omega)]; omega) (by rw [ec]; exact hbytes) hcells.1 (by rw [ec]; exact hcells.2) fun cA kA comp f1 f2 f3 f4 => ?_
  rw [ec]
  obtain ⟨kA2, comp2, g1, g2, g3, g4⟩ := (hM.C.K.2 3 _ rfl).2
  have hcA : cA = E 102 3 := Option.some.inj (f1.symm.trans g4)
  subst hcA
  generalize hH1 : H.push ({ cls := E 102 3, slots := Array.replicate N .null, vm := .none } : Cell) = H1
  have z1 : H1.size = H.size + 1 := by rw [← hH1, Array.size_push]
  have e1 : H1[H.size]? = some (arrV (E 102 3) N (fun _ => .null)) := by rw [← hH1, Array.getElem?_push_size, ← arrV_new]
  have o1 : ∀ q : Nat, q < H.size → H1[q]? = H[q]? := fun q hq => by rw [← hH1, Array.getElem?_push, if_neg (Nat.ne_of_lt hq)]
  have hF : Fm [] H H1 := cell0 rfl z1 o1
  have hM1 := hM.mut (L := []) hF (fun q hq => hq.elim) (fun q hq => by cases hq)
  rw [List.append_nil] at hM1
  refine kk H.size H1 rfl z1 hM1 hF ⟨fun j x hx => ?_, fun j x hx => ?_⟩ ls hls
  · have hz : j < 1 := (List.getElem?_eq_some_iff.mp hx).1
    rw [show j = 0 by omega] at hx
    cases hx
    show H1[H.size]? = some (vp_cell _ _)
    rw [e1]
    rfl
  · have hz : j < 1 := (List.getElem?_eq_some_iff.mp hx).1
    rw [show j = 0 by omega] at hx
    cases hx
    exact (by omega : H.size = H.size + j)
theorem v_astq {ws wsv : va_W} {a b : Nat} (X : CF p m c cc nL s args own) (hM : MS E rs s H locs) (hP : PR E b ws H) (q0 : Nat) {N : Nat} {f : Nat → Option Nat} (he : ws[q0]? = some (a, .inl (E 102 3, N, .inr (.inr (.inr (.inr f)))))) (hPv : PW E wsv H) (qk : Nat) {v : Nat} {vs : List Value} (hv : wsv[qk]? = some (v, .inr (4, vs))) {i : Int} (h0 : 0 ≤ i) (h1 : i < N) (hN : N < 2147483648) (hin : Fr rs s.heap.size a) (hdg : decode cc pc = .ok (.aastore, 1)) (pc' : Nat) (hp : pc + 1 = pc') {ws' : va_W} (hw : ws.set q0 (a, .inl (E 102 3, N, .inr (.inr (.inr (.inr (va_up f i.toNat (some v))))))) = ws')
    (kk : ∀ (H1 : Heap) (locs1 : List Loc), H1.size = H.size → MS E rs s H1 locs1 → Fm [(a, 1)] H H1 → PR E b ws' H1 → V p l e R s m args below meth c Q nL H1 locs1 k n pc' L st) : V p l e R s m args below meth c Q nL H locs k n pc L (.ref v :: .int (zI i) :: .ref a :: st) := by
  subst hp; subst hw
  intro ls hls
  have ec : (zI i).toNatClampNeg = i.toNat := zI_clamp h0 (by omega)
  obtain ⟨r', hr', cellV, g1, g2, g3, -⟩ := hPv qk _ hv
  have hcls := (hM.C.K.1 4 (RX0, TX0, 17) rfl).2
  obtain ⟨kA, comp, k1, k2, k3, -⟩ := (hM.C.K.2 3 _ rfl).2
  have hcomp : comp = (zD E).1 4 := Option.some.inj (k3.symm.trans hcls.1)
  subst hcomp
  obtain ⟨kC, hkC, -⟩ := hcls.2
  have hi : i < 2147483648 := by omega
  have hneg : ¬ zI i < 0 := by
    rw [zI_0, zI_lt ⟨by omega, hi⟩ (by decide)]
    omega
  have hsz : (zI i).toNatClampNeg < (vp_cell (E 102 3) (N, .inr (.inr (.inr (.inr f))))).slots.size := by
    show _ < (arrV _ _ _).slots.size
    rw [arrV_size, ec]
    omega
  refine W.aast X.1 X.2.1 (hP.1 q0 _ he) (fun q h => by cases h) (fun h => by cases h) k1 k2 rfl hkC (j := zI i) ⟨hneg, hsz⟩ g1 (fun q h => by rw [g3] at h; cases h) (by rw [g2]; exact hkC) (by rw [g2]; exact va_assign hcls) rfl rfl hdg fun H1 e z oq => ?_
  refine kk H1 _ z (hM.put z oq hin) (cell1 z oq) (hP.set he ?_ oq) ls hls
  show H1[a]? = some (vp_cell _ _)
  rw [e, ec]
  rw [vp_cell_q, vp_cell_q, arrV_store]
  congr 2
  funext q
  by_cases hq : q = i.toNat
  · subst hq
    simp [updV, va_up, va_rf]
  · simp [updV, va_up, hq]
theorem v_aldq {ws : va_W} {a : Nat} (X : CF p m c cc nL s args own) (hC : Cx E s H) (hP : PW E ws H) (q0 : Nat) {N : Nat} {f : Nat → Option Nat} (he : ws[q0]? = some (a, .inl (E 102 3, N, .inr (.inr (.inr (.inr f)))))) {i : Int} (h0 : 0 ≤ i) (h1 : i < N) (hN : N < 2147483648) {x : Nat} (hx : f i.toNat = some x) (hdg : decode cc pc = .ok (.aaload, 1)) (pc' : Nat) (hp : pc + 1 = pc') (kk : V p l e R s m args below meth c Q nL H locs k n pc' L (.ref x :: st)) : V p l e R s m args below meth c Q nL H locs k n pc L (.int (zI i) :: .ref a :: st) := by
  subst hp
  have hi : i < 2147483648 := by omega
  have ec : (zI i).toNatClampNeg = i.toNat := zI_clamp h0 hi
  intro ls hl
  refine va_aldq X.1 X.2.1 hC.K hP q0 3 he rfl (zI_in h0 h1 hN) hdg ?_
  rw [ec, hx]
  exact kk ls hl
end HIS
