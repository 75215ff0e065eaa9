theorem rg_t (a : Int32) : Rg a.toInt := by
  have h1 := Int32.le_toInt a
  have h2 := Int32.toInt_lt a
  omega
theorem and63 (a : Int32) : 0 ≤ (a &&& zI 63).toInt ∧ (a &&& zI 63).toInt ≤ 63 := by
  have e0 : (a &&& zI 63).toBitVec = a.toBitVec &&& 63#32 := rfl
  have h : (a &&& zI 63).toBitVec.toNat ≤ 63 := by
    rw [e0, BitVec.toNat_and]
    exact Nat.and_le_right
  have e : (a &&& zI 63).toInt = ((a &&& zI 63).toBitVec.toNat : Int) := by
    show (a &&& zI 63).toBitVec.toInt = _
    exact BitVec.toInt_eq_toNat_of_lt (by omega)
  omega
section LAWT
variable {p : Program} {l : Launch} {e : Env} {R : Room} {s : State} {m : MethodId} {args : Array Value} {below : List Frame} {meth : Method} {c : Code} {Q : State → Prop} {nL : Nat} {H : Heap} {locs : List Loc} {k n : Nat} {pc : Nat} {L L' : List (Nat × Value)} {st : List Value} {cc : ByteArray} {own : String}
theorem v_and63 {a : Int} {q : Nat} (X : CF p m c cc nL s args own) (hc : (zI a &&& zI 63).toInt = (q : Int)) (hdg : decode cc pc = .ok (.iand, 1)) (pc' : Nat) (hp : pc + 1 = pc') (kk : V p l e R s m args below meth c Q nL H locs k n pc' L (.int (zI (q : Int)) :: st)) : V p l e R s m args below meth c Q nL H locs k n pc L (.int (zI 63) :: .int (zI a) :: st) := by
  subst hp
  rw [← hc, zI_back] at kk
  exact fun ls hl => lv_iand X.1 X.2.1 hdg (kk ls hl)
end LAWT
theorem fl_0_1 {co : Nat → Int → Int} {a b z : Int} : ¬ flC co 0 a b z = 1 := by
  intro h
  unfold flC at h
  rw [if_pos rfl] at h
  unfold fCh at h
  repeat' (split at h)
  all_goals exact absurd h (by decide)
theorem fl_0_3 {co : Nat → Int → Int} {a b z : Int} : ¬ flC co 0 a b z = 3 := by
  intro h
  unfold flC at h
  rw [if_pos rfl] at h
  unfold fCh at h
  repeat' (split at h)
  all_goals exact absurd h (by decide)
theorem fl_1_1 {co : Nat → Int → Int} {a b z : Int} : ¬ flC co 1 a b z = 1 := by
  intro h
  unfold flC at h
  rw [if_neg (by decide)] at h
  rw [if_pos rfl] at h
  unfold fWi at h
  repeat' (split at h)
  all_goals exact absurd h (by decide)
theorem fl_1_3 {co : Nat → Int → Int} {a b z : Int} : ¬ flC co 1 a b z = 3 := by
  intro h
  unfold flC at h
  rw [if_neg (by decide)] at h
  rw [if_pos rfl] at h
  unfold fWi at h
  repeat' (split at h)
  all_goals exact absurd h (by decide)
theorem fl_2_3 {co : Nat → Int → Int} {a b z : Int} : ¬ flC co 2 a b z = 3 := by
  intro h
  unfold flC at h
  rw [if_neg (by decide)] at h
  rw [if_neg (by decide)] at h
  rw [if_pos rfl] at h
  unfold fTe at h
  repeat' (split at h)
  all_goals exact absurd h (by decide)
theorem fl_3_2 {co : Nat → Int → Int} {a b z : Int} : ¬ flC co 3 a b z = 2 := by
  intro h
  unfold flC at h
  rw [if_neg (by decide)] at h
  rw [if_neg (by decide)] at h
  rw [if_neg (by decide)] at h
  rw [if_pos rfl] at h
  unfold fQu at h
  repeat' (split at h)
  all_goals exact absurd h (by decide)
theorem fl_4_2 {co : Nat → Int → Int} {a b z : Int} : ¬ flC co 4 a b z = 2 := by
  intro h
  unfold flC at h
  rw [if_neg (by decide)] at h
  rw [if_neg (by decide)] at h
  rw [if_neg (by decide)] at h
  rw [if_neg (by decide)] at h
  rw [if_pos rfl] at h
  unfold fDe at h
  repeat' (split at h)
  all_goals exact absurd h (by decide)
theorem fl_4_3 {co : Nat → Int → Int} {a b z : Int} : ¬ flC co 4 a b z = 3 := by
  intro h
  unfold flC at h
  rw [if_neg (by decide)] at h
  rw [if_neg (by decide)] at h
  rw [if_neg (by decide)] at h
  rw [if_neg (by decide)] at h
  rw [if_pos rfl] at h
  unfold fDe at h
  repeat' (split at h)
  all_goals exact absurd h (by decide)
theorem fl_5_2 {co : Nat → Int → Int} {a b z : Int} : ¬ flC co 5 a b z = 2 := by
  intro h
  unfold flC at h
  rw [if_neg (by decide)] at h
  rw [if_neg (by decide)] at h
  rw [if_neg (by decide)] at h
  rw [if_neg (by decide)] at h
  rw [if_neg (by decide)] at h
  unfold fAf at h
  repeat' (split at h)
  all_goals exact absurd h (by decide)
theorem fl_5_3 {co : Nat → Int → Int} {a b z : Int} : ¬ flC co 5 a b z = 3 := by
  intro h
  unfold flC at h
  rw [if_neg (by decide)] at h
  rw [if_neg (by decide)] at h
  rw [if_neg (by decide)] at h
  rw [if_neg (by decide)] at h
  rw [if_neg (by decide)] at h
  unfold fAf at h
  repeat' (split at h)
  all_goals exact absurd h (by decide)
theorem fl_6_2 {co : Nat → Int → Int} {a b z : Int} : ¬ flC co 6 a b z = 2 := by
  intro h
  unfold flC at h
  rw [if_neg (by decide)] at h
  rw [if_neg (by decide)] at h
  rw [if_neg (by decide)] at h
  rw [if_neg (by decide)] at h
  rw [if_neg (by decide)] at h
  unfold fAf at h
  repeat' (split at h)
  all_goals exact absurd h (by decide)
theorem fl_6_3 {co : Nat → Int → Int} {a b z : Int} : ¬ flC co 6 a b z = 3 := by
  intro h
  unfold flC at h
  rw [if_neg (by decide)] at h
  rw [if_neg (by decide)] at h
  rw [if_neg (by decide)] at h
  rw [if_neg (by decide)] at h
  rw [if_neg (by decide)] at h
  unfold fAf at h
  repeat' (split at h)
  all_goals exact absurd h (by decide)
section LAWOPS
variable {p : Program} {l : Launch} {e : Env} {s : State} {m : MethodId} {args : Array Value} {below : List Frame} {meth : Method} {cd : Code} {Q : State → Prop} {H : Heap} {lo : List Loc} {kq nq : Nat} {E : Nat → Nat → Nat} {b Lx x : Nat} {xs : Nat → Int32} {i : Int}
theorem lt_caseOf (hl : l.stackTraces = false) (X : CF p m cd code 9 s args RL) (hX : va_X b Lx xs s s.heap) (hbl : b < s.heap.size) (hLx : Lx ≤ 2560) (hM : MS E [] s H lo) (hk : kq + 60 ≤ 603072) (hn : nq + 4000 ≤ 7211113) (hx : s.heap.size ≤ x) (hI : LawI E x H) (i0 : 0 ≤ i) (i1 : i + 5 ≤ (Lx : Int)) (kk : ∀ (H1 : Heap) (lo1 : List Loc), MS E [] s H1 lo1 → LawI E x H1 → V p l e room_1 s m args below meth cd Q 9 H1 lo1 (kq + 60) (nq + 4000) 3555 [(5, .int (zI i)), (4, .ref (x + 340)), (3, .ref (x + 339)), (2, .ref (x + 334)), (1, .ref x), (0, .ref b)] []) : V p l e room_1 s m args below meth cd Q 9 H lo kq nq 828 [(5, .int (zI i)), (4, .ref (x + 340)), (3, .ref (x + 339)), (2, .ref (x + 334)), (1, .ref x), (0, .ref b)] [] := by
  obtain ⟨hzl, v, N, f, nn, v2, N2, f2, n2, co, bf, cv, hc, nx, sz, hs, er, fa, ss, dk, se, po, si, pr, ml, ml2, mo, lg, dg, hW, hP⟩ := hI
  obtain ⟨a1, ha1⟩ : ∃ a, (xs (i + 1).toNat).toInt = a := ⟨_, rfl⟩
  have ga1 : Rg a1 := by rw [← ha1]; exact rg_t _
  obtain ⟨a2, ha2⟩ : ∃ a, (xs (i + 2).toNat).toInt = a := ⟨_, rfl⟩
  have ga2 : Rg a2 := by rw [← ha2]; exact rg_t _
  by_cases q0 : (0 ≤ a1 ∧ a1 < 6) ∧ (0 ≤ a2 ∧ a2 < 5)
  · skip
    by_cases q1 : 0 ≤ firstZ (fun j => co 1 j = a1 ∧ co 2 j = a2) (co 0 0).toNat
    · skip
      exact lo_caseOf hl X hX hbl hLx hM hk hn hx hzl hW hP i0 i1 ha1 ga1 ha2 ga2 q0 q1 kk
    · exact lo_caseOf_2 hl X hX hbl hLx hM hk hn hx hzl hW hP i0 i1 ha1 ga1 ha2 ga2 q0 q1 kk
  · exact lo_caseOf_1 hl X hX hbl hLx hM hk hn hx hzl hW hP i0 i1 ha1 ga1 ha2 ga2 q0 kk
theorem lt_defendantOf (hl : l.stackTraces = false) (X : CF p m cd code 9 s args RL) (hX : va_X b Lx xs s s.heap) (hbl : b < s.heap.size) (hLx : Lx ≤ 2560) (hM : MS E [] s H lo) (hk : kq + 60 ≤ 603072) (hn : nq + 4000 ≤ 7211113) (hx : s.heap.size ≤ x) (hI : LawI E x H) (i0 : 0 ≤ i) (i1 : i + 5 ≤ (Lx : Int)) (kk : ∀ (H1 : Heap) (lo1 : List Loc), MS E [] s H1 lo1 → LawI E x H1 → V p l e room_1 s m args below meth cd Q 9 H1 lo1 (kq + 60) (nq + 4000) 3555 [(5, .int (zI i)), (4, .ref (x + 340)), (3, .ref (x + 339)), (2, .ref (x + 334)), (1, .ref x), (0, .ref b)] []) : V p l e room_1 s m args below meth cd Q 9 H lo kq nq 896 [(5, .int (zI i)), (4, .ref (x + 340)), (3, .ref (x + 339)), (2, .ref (x + 334)), (1, .ref x), (0, .ref b)] [] := by
  obtain ⟨hzl, v, N, f, nn, v2, N2, f2, n2, co, bf, cv, hc, nx, sz, hs, er, fa, ss, dk, se, po, si, pr, ml, ml2, mo, lg, dg, hW, hP⟩ := hI
  obtain ⟨a1, ha1⟩ : ∃ a, (xs (i + 1).toNat).toInt = a := ⟨_, rfl⟩
  have ga1 : Rg a1 := by rw [← ha1]; exact rg_t _
  by_cases q0 : 0 ≤ a1 ∧ a1 < co 0 0
  · skip
    exact lo_defendantOf hl X hX hbl hLx hM hk hn hx hzl hW hP i0 i1 ha1 ga1 q0 kk
  · exact lo_defendantOf_1 hl X hX hbl hLx hM hk hn hx hzl hW hP i0 i1 ha1 ga1 q0 kk
theorem lt_offenceOf (hl : l.stackTraces = false) (X : CF p m cd code 9 s args RL) (hX : va_X b Lx xs s s.heap) (hbl : b < s.heap.size) (hLx : Lx ≤ 2560) (hM : MS E [] s H lo) (hk : kq + 60 ≤ 603072) (hn : nq + 4000 ≤ 7211113) (hx : s.heap.size ≤ x) (hI : LawI E x H) (i0 : 0 ≤ i) (i1 : i + 5 ≤ (Lx : Int)) (kk : ∀ (H1 : Heap) (lo1 : List Loc), MS E [] s H1 lo1 → LawI E x H1 → V p l e room_1 s m args below meth cd Q 9 H1 lo1 (kq + 60) (nq + 4000) 3555 [(5, .int (zI i)), (4, .ref (x + 340)), (3, .ref (x + 339)), (2, .ref (x + 334)), (1, .ref x), (0, .ref b)] []) : V p l e room_1 s m args below meth cd Q 9 H lo kq nq 952 [(5, .int (zI i)), (4, .ref (x + 340)), (3, .ref (x + 339)), (2, .ref (x + 334)), (1, .ref x), (0, .ref b)] [] := by
  obtain ⟨hzl, v, N, f, nn, v2, N2, f2, n2, co, bf, cv, hc, nx, sz, hs, er, fa, ss, dk, se, po, si, pr, ml, ml2, mo, lg, dg, hW, hP⟩ := hI
  obtain ⟨a1, ha1⟩ : ∃ a, (xs (i + 1).toNat).toInt = a := ⟨_, rfl⟩
  have ga1 : Rg a1 := by rw [← ha1]; exact rg_t _
  by_cases q0 : 0 ≤ a1 ∧ a1 < co 0 0
  · skip
    exact lo_offenceOf hl X hX hbl hLx hM hk hn hx hzl hW hP i0 i1 ha1 ga1 q0 kk
  · exact lo_offenceOf_1 hl X hX hbl hLx hM hk hn hx hzl hW hP i0 i1 ha1 ga1 q0 kk
theorem lt_isOpen (hl : l.stackTraces = false) (X : CF p m cd code 9 s args RL) (hX : va_X b Lx xs s s.heap) (hbl : b < s.heap.size) (hLx : Lx ≤ 2560) (hM : MS E [] s H lo) (hk : kq + 60 ≤ 603072) (hn : nq + 4000 ≤ 7211113) (hx : s.heap.size ≤ x) (hI : LawI E x H) (i0 : 0 ≤ i) (i1 : i + 5 ≤ (Lx : Int)) (kk : ∀ (H1 : Heap) (lo1 : List Loc), MS E [] s H1 lo1 → LawI E x H1 → V p l e room_1 s m args below meth cd Q 9 H1 lo1 (kq + 60) (nq + 4000) 3555 [(5, .int (zI i)), (4, .ref (x + 340)), (3, .ref (x + 339)), (2, .ref (x + 334)), (1, .ref x), (0, .ref b)] []) : V p l e room_1 s m args below meth cd Q 9 H lo kq nq 1008 [(5, .int (zI i)), (4, .ref (x + 340)), (3, .ref (x + 339)), (2, .ref (x + 334)), (1, .ref x), (0, .ref b)] [] := by
  obtain ⟨hzl, v, N, f, nn, v2, N2, f2, n2, co, bf, cv, hc, nx, sz, hs, er, fa, ss, dk, se, po, si, pr, ml, ml2, mo, lg, dg, hW, hP⟩ := hI
  obtain ⟨a1, ha1⟩ : ∃ a, (xs (i + 1).toNat).toInt = a := ⟨_, rfl⟩
  have ga1 : Rg a1 := by rw [← ha1]; exact rg_t _
  by_cases q0 : 0 ≤ a1 ∧ a1 < co 0 0
  · skip
    exact lo_isOpen hl X hX hbl hLx hM hk hn hx hzl hW hP i0 i1 ha1 ga1 q0 kk
  · exact lo_isOpen_1 hl X hX hbl hLx hM hk hn hx hzl hW hP i0 i1 ha1 ga1 q0 kk
theorem lt_isDecided (hl : l.stackTraces = false) (X : CF p m cd code 9 s args RL) (hX : va_X b Lx xs s s.heap) (hbl : b < s.heap.size) (hLx : Lx ≤ 2560) (hM : MS E [] s H lo) (hk : kq + 60 ≤ 603072) (hn : nq + 4000 ≤ 7211113) (hx : s.heap.size ≤ x) (hI : LawI E x H) (i0 : 0 ≤ i) (i1 : i + 5 ≤ (Lx : Int)) (kk : ∀ (H1 : Heap) (lo1 : List Loc), MS E [] s H1 lo1 → LawI E x H1 → V p l e room_1 s m args below meth cd Q 9 H1 lo1 (kq + 60) (nq + 4000) 3555 [(5, .int (zI i)), (4, .ref (x + 340)), (3, .ref (x + 339)), (2, .ref (x + 334)), (1, .ref x), (0, .ref b)] []) : V p l e room_1 s m args below meth cd Q 9 H lo kq nq 1071 [(5, .int (zI i)), (4, .ref (x + 340)), (3, .ref (x + 339)), (2, .ref (x + 334)), (1, .ref x), (0, .ref b)] [] := by
  obtain ⟨hzl, v, N, f, nn, v2, N2, f2, n2, co, bf, cv, hc, nx, sz, hs, er, fa, ss, dk, se, po, si, pr, ml, ml2, mo, lg, dg, hW, hP⟩ := hI
  obtain ⟨a1, ha1⟩ : ∃ a, (xs (i + 1).toNat).toInt = a := ⟨_, rfl⟩
  have ga1 : Rg a1 := by rw [← ha1]; exact rg_t _
  by_cases q0 : 0 ≤ a1 ∧ a1 < co 0 0
  · skip
    exact lo_isDecided hl X hX hbl hLx hM hk hn hx hzl hW hP i0 i1 ha1 ga1 q0 kk
  · exact lo_isDecided_1 hl X hX hbl hLx hM hk hn hx hzl hW hP i0 i1 ha1 ga1 q0 kk
theorem lt_isClosed (hl : l.stackTraces = false) (X : CF p m cd code 9 s args RL) (hX : va_X b Lx xs s s.heap) (hbl : b < s.heap.size) (hLx : Lx ≤ 2560) (hM : MS E [] s H lo) (hk : kq + 60 ≤ 603072) (hn : nq + 4000 ≤ 7211113) (hx : s.heap.size ≤ x) (hI : LawI E x H) (i0 : 0 ≤ i) (i1 : i + 5 ≤ (Lx : Int)) (kk : ∀ (H1 : Heap) (lo1 : List Loc), MS E [] s H1 lo1 → LawI E x H1 → V p l e room_1 s m args below meth cd Q 9 H1 lo1 (kq + 60) (nq + 4000) 3555 [(5, .int (zI i)), (4, .ref (x + 340)), (3, .ref (x + 339)), (2, .ref (x + 334)), (1, .ref x), (0, .ref b)] []) : V p l e room_1 s m args below meth cd Q 9 H lo kq nq 1134 [(5, .int (zI i)), (4, .ref (x + 340)), (3, .ref (x + 339)), (2, .ref (x + 334)), (1, .ref x), (0, .ref b)] [] := by
  obtain ⟨hzl, v, N, f, nn, v2, N2, f2, n2, co, bf, cv, hc, nx, sz, hs, er, fa, ss, dk, se, po, si, pr, ml, ml2, mo, lg, dg, hW, hP⟩ := hI
  obtain ⟨a1, ha1⟩ : ∃ a, (xs (i + 1).toNat).toInt = a := ⟨_, rfl⟩
  have ga1 : Rg a1 := by rw [← ha1]; exact rg_t _
  by_cases q0 : 0 ≤ a1 ∧ a1 < co 0 0
  · skip
    exact lo_isClosed hl X hX hbl hLx hM hk hn hx hzl hW hP i0 i1 ha1 ga1 q0 kk
  · exact lo_isClosed_1 hl X hX hbl hLx hM hk hn hx hzl hW hP i0 i1 ha1 ga1 q0 kk
theorem lt_isGuilty (hl : l.stackTraces = false) (X : CF p m cd code 9 s args RL) (hX : va_X b Lx xs s s.heap) (hbl : b < s.heap.size) (hLx : Lx ≤ 2560) (hM : MS E [] s H lo) (hk : kq + 60 ≤ 603072) (hn : nq + 4000 ≤ 7211113) (hx : s.heap.size ≤ x) (hI : LawI E x H) (i0 : 0 ≤ i) (i1 : i + 5 ≤ (Lx : Int)) (kk : ∀ (H1 : Heap) (lo1 : List Loc), MS E [] s H1 lo1 → LawI E x H1 → V p l e room_1 s m args below meth cd Q 9 H1 lo1 (kq + 60) (nq + 4000) 3555 [(5, .int (zI i)), (4, .ref (x + 340)), (3, .ref (x + 339)), (2, .ref (x + 334)), (1, .ref x), (0, .ref b)] []) : V p l e room_1 s m args below meth cd Q 9 H lo kq nq 1197 [(5, .int (zI i)), (4, .ref (x + 340)), (3, .ref (x + 339)), (2, .ref (x + 334)), (1, .ref x), (0, .ref b)] [] := by
  obtain ⟨hzl, v, N, f, nn, v2, N2, f2, n2, co, bf, cv, hc, nx, sz, hs, er, fa, ss, dk, se, po, si, pr, ml, ml2, mo, lg, dg, hW, hP⟩ := hI
  obtain ⟨a1, ha1⟩ : ∃ a, (xs (i + 1).toNat).toInt = a := ⟨_, rfl⟩
  have ga1 : Rg a1 := by rw [← ha1]; exact rg_t _
  by_cases q0 : 0 ≤ a1 ∧ a1 < co 0 0
  · skip
    by_cases q1 : ¬ co 3 a1 = 0
    · skip
      exact lo_isGuilty hl X hX hbl hLx hM hk hn hx hzl hW hP i0 i1 ha1 ga1 q0 q1 kk
    · exact lo_isGuilty_2 hl X hX hbl hLx hM hk hn hx hzl hW hP i0 i1 ha1 ga1 q0 q1 kk
  · exact lo_isGuilty_1 hl X hX hbl hLx hM hk hn hx hzl hW hP i0 i1 ha1 ga1 q0 kk
theorem lt_appealCount (hl : l.stackTraces = false) (X : CF p m cd code 9 s args RL) (hX : va_X b Lx xs s s.heap) (hbl : b < s.heap.size) (hLx : Lx ≤ 2560) (hM : MS E [] s H lo) (hk : kq + 60 ≤ 603072) (hn : nq + 4000 ≤ 7211113) (hx : s.heap.size ≤ x) (hI : LawI E x H) (i0 : 0 ≤ i) (i1 : i + 5 ≤ (Lx : Int)) (kk : ∀ (H1 : Heap) (lo1 : List Loc), MS E [] s H1 lo1 → LawI E x H1 → V p l e room_1 s m args below meth cd Q 9 H1 lo1 (kq + 60) (nq + 4000) 3555 [(5, .int (zI i)), (4, .ref (x + 340)), (3, .ref (x + 339)), (2, .ref (x + 334)), (1, .ref x), (0, .ref b)] []) : V p l e room_1 s m args below meth cd Q 9 H lo kq nq 1260 [(5, .int (zI i)), (4, .ref (x + 340)), (3, .ref (x + 339)), (2, .ref (x + 334)), (1, .ref x), (0, .ref b)] [] := by
  obtain ⟨hzl, v, N, f, nn, v2, N2, f2, n2, co, bf, cv, hc, nx, sz, hs, er, fa, ss, dk, se, po, si, pr, ml, ml2, mo, lg, dg, hW, hP⟩ := hI
  obtain ⟨a1, ha1⟩ : ∃ a, (xs (i + 1).toNat).toInt = a := ⟨_, rfl⟩
  have ga1 : Rg a1 := by rw [← ha1]; exact rg_t _
  by_cases q0 : 0 ≤ a1 ∧ a1 < co 0 0
  · skip
    exact lo_appealCount hl X hX hbl hLx hM hk hn hx hzl hW hP i0 i1 ha1 ga1 q0 kk
  · exact lo_appealCount_1 hl X hX hbl hLx hM hk hn hx hzl hW hP i0 i1 ha1 ga1 q0 kk
theorem lt_testimonyCount (hl : l.stackTraces = false) (X : CF p m cd code 9 s args RL) (hX : va_X b Lx xs s s.heap) (hbl : b < s.heap.size) (hLx : Lx ≤ 2560) (hM : MS E [] s H lo) (hk : kq + 60 ≤ 603072) (hn : nq + 4000 ≤ 7211113) (hx : s.heap.size ≤ x) (hI : LawI E x H) (i0 : 0 ≤ i) (i1 : i + 5 ≤ (Lx : Int)) (kk : ∀ (H1 : Heap) (lo1 : List Loc), MS E [] s H1 lo1 → LawI E x H1 → V p l e room_1 s m args below meth cd Q 9 H1 lo1 (kq + 60) (nq + 4000) 3555 [(5, .int (zI i)), (4, .ref (x + 340)), (3, .ref (x + 339)), (2, .ref (x + 334)), (1, .ref x), (0, .ref b)] []) : V p l e room_1 s m args below meth cd Q 9 H lo kq nq 1316 [(5, .int (zI i)), (4, .ref (x + 340)), (3, .ref (x + 339)), (2, .ref (x + 334)), (1, .ref x), (0, .ref b)] [] := by
  obtain ⟨hzl, v, N, f, nn, v2, N2, f2, n2, co, bf, cv, hc, nx, sz, hs, er, fa, ss, dk, se, po, si, pr, ml, ml2, mo, lg, dg, hW, hP⟩ := hI
  obtain ⟨a1, ha1⟩ : ∃ a, (xs (i + 1).toNat).toInt = a := ⟨_, rfl⟩
  have ga1 : Rg a1 := by rw [← ha1]; exact rg_t _
  by_cases q0 : 0 ≤ a1 ∧ a1 < co 0 0
  · skip
    exact lo_testimonyCount hl X hX hbl hLx hM hk hn hx hzl hW hP i0 i1 ha1 ga1 q0 kk
  · exact lo_testimonyCount_1 hl X hX hbl hLx hM hk hn hx hzl hW hP i0 i1 ha1 ga1 q0 kk
theorem lt_witnessAt (hl : l.stackTraces = false) (X : CF p m cd code 9 s args RL) (hX : va_X b Lx xs s s.heap) (hbl : b < s.heap.size) (hLx : Lx ≤ 2560) (hM : MS E [] s H lo) (hk : kq + 60 ≤ 603072) (hn : nq + 4000 ≤ 7211113) (hx : s.heap.size ≤ x) (hI : LawI E x H) (i0 : 0 ≤ i) (i1 : i + 5 ≤ (Lx : Int)) (kk : ∀ (H1 : Heap) (lo1 : List Loc), MS E [] s H1 lo1 → LawI E x H1 → V p l e room_1 s m args below meth cd Q 9 H1 lo1 (kq + 60) (nq + 4000) 3555 [(5, .int (zI i)), (4, .ref (x + 340)), (3, .ref (x + 339)), (2, .ref (x + 334)), (1, .ref x), (0, .ref b)] []) : V p l e room_1 s m args below meth cd Q 9 H lo kq nq 1372 [(5, .int (zI i)), (4, .ref (x + 340)), (3, .ref (x + 339)), (2, .ref (x + 334)), (1, .ref x), (0, .ref b)] [] := by
  obtain ⟨hzl, v, N, f, nn, v2, N2, f2, n2, co, bf, cv, hc, nx, sz, hs, er, fa, ss, dk, se, po, si, pr, ml, ml2, mo, lg, dg, hW, hP⟩ := hI
  obtain ⟨a1, ha1⟩ : ∃ a, (xs (i + 1).toNat).toInt = a := ⟨_, rfl⟩
  have ga1 : Rg a1 := by rw [← ha1]; exact rg_t _
  obtain ⟨a2, ha2⟩ : ∃ a, (xs (i + 2).toNat).toInt = a := ⟨_, rfl⟩
  have ga2 : Rg a2 := by rw [← ha2]; exact rg_t _
  by_cases q0 : 0 ≤ a1 ∧ a1 < co 0 0
  · skip
    by_cases q1 : 0 ≤ a2 ∧ a2 < co 6 a1
    · skip
      exact lo_witnessAt hl X hX hbl hLx hM hk hn hx hzl hW hP i0 i1 ha1 ga1 ha2 ga2 q0 q1 kk
    · exact lo_witnessAt_2 hl X hX hbl hLx hM hk hn hx hzl hW hP i0 i1 ha1 ga1 ha2 ga2 q0 q1 kk
  · exact lo_witnessAt_1 hl X hX hbl hLx hM hk hn hx hzl hW hP i0 i1 ha1 ga1 ha2 ga2 q0 kk
theorem lt_hasTestified (hl : l.stackTraces = false) (X : CF p m cd code 9 s args RL) (hX : va_X b Lx xs s s.heap) (hbl : b < s.heap.size) (hLx : Lx ≤ 2560) (hM : MS E [] s H lo) (hk : kq + 60 ≤ 603072) (hn : nq + 4000 ≤ 7211113) (hx : s.heap.size ≤ x) (hI : LawI E x H) (i0 : 0 ≤ i) (i1 : i + 5 ≤ (Lx : Int)) (kk : ∀ (H1 : Heap) (lo1 : List Loc), MS E [] s H1 lo1 → LawI E x H1 → V p l e room_1 s m args below meth cd Q 9 H1 lo1 (kq + 60) (nq + 4000) 3555 [(5, .int (zI i)), (4, .ref (x + 340)), (3, .ref (x + 339)), (2, .ref (x + 334)), (1, .ref x), (0, .ref b)] []) : V p l e room_1 s m args below meth cd Q 9 H lo kq nq 1440 [(5, .int (zI i)), (4, .ref (x + 340)), (3, .ref (x + 339)), (2, .ref (x + 334)), (1, .ref x), (0, .ref b)] [] := by
  obtain ⟨hzl, v, N, f, nn, v2, N2, f2, n2, co, bf, cv, hc, nx, sz, hs, er, fa, ss, dk, se, po, si, pr, ml, ml2, mo, lg, dg, hW, hP⟩ := hI
  obtain ⟨a1, ha1⟩ : ∃ a, (xs (i + 1).toNat).toInt = a := ⟨_, rfl⟩
  have ga1 : Rg a1 := by rw [← ha1]; exact rg_t _
  obtain ⟨a2, ha2⟩ : ∃ a, (xs (i + 2).toNat).toInt = a := ⟨_, rfl⟩
  have ga2 : Rg a2 := by rw [← ha2]; exact rg_t _
  by_cases q0 : 0 ≤ a1 ∧ a1 < co 0 0
  · skip
    by_cases q1 : 0 ≤ a2 ∧ a2 < co 0 1
    · skip
      exact lo_hasTestified hl X hX hbl hLx hM hk hn hx hzl hW hP i0 i1 ha1 ga1 ha2 ga2 q0 q1 kk
    · exact lo_hasTestified_2 hl X hX hbl hLx hM hk hn hx hzl hW hP i0 i1 ha1 ga1 ha2 ga2 q0 q1 kk
  · exact lo_hasTestified_1 hl X hX hbl hLx hM hk hn hx hzl hW hP i0 i1 ha1 ga1 ha2 ga2 q0 kk
theorem lt_isForProsecution (hl : l.stackTraces = false) (X : CF p m cd code 9 s args RL) (hX : va_X b Lx xs s s.heap) (hbl : b < s.heap.size) (hLx : Lx ≤ 2560) (hM : MS E [] s H lo) (hk : kq + 60 ≤ 603072) (hn : nq + 4000 ≤ 7211113) (hx : s.heap.size ≤ x) (hI : LawI E x H) (i0 : 0 ≤ i) (i1 : i + 5 ≤ (Lx : Int)) (kk : ∀ (H1 : Heap) (lo1 : List Loc), MS E [] s H1 lo1 → LawI E x H1 → V p l e room_1 s m args below meth cd Q 9 H1 lo1 (kq + 60) (nq + 4000) 3555 [(5, .int (zI i)), (4, .ref (x + 340)), (3, .ref (x + 339)), (2, .ref (x + 334)), (1, .ref x), (0, .ref b)] []) : V p l e room_1 s m args below meth cd Q 9 H lo kq nq 1515 [(5, .int (zI i)), (4, .ref (x + 340)), (3, .ref (x + 339)), (2, .ref (x + 334)), (1, .ref x), (0, .ref b)] [] := by
  obtain ⟨hzl, v, N, f, nn, v2, N2, f2, n2, co, bf, cv, hc, nx, sz, hs, er, fa, ss, dk, se, po, si, pr, ml, ml2, mo, lg, dg, hW, hP⟩ := hI
  obtain ⟨a1, ha1⟩ : ∃ a, (xs (i + 1).toNat).toInt = a := ⟨_, rfl⟩
  have ga1 : Rg a1 := by rw [← ha1]; exact rg_t _
  obtain ⟨a2, ha2⟩ : ∃ a, (xs (i + 2).toNat).toInt = a := ⟨_, rfl⟩
  have ga2 : Rg a2 := by rw [← ha2]; exact rg_t _
  by_cases q0 : 0 ≤ a1 ∧ a1 < co 0 0
  · skip
    by_cases q1 : 0 ≤ a2 ∧ a2 < co 0 1
    · skip
      by_cases q2 : 0 < co 9 (a1 * 8 + a2)
      · skip
        exact lo_isForProsecution hl X hX hbl hLx hM hk hn hx hzl hW hP i0 i1 ha1 ga1 ha2 ga2 q0 q1 q2 kk
      · exact lo_isForProsecution_3 hl X hX hbl hLx hM hk hn hx hzl hW hP i0 i1 ha1 ga1 ha2 ga2 q0 q1 q2 kk
    · exact lo_isForProsecution_2 hl X hX hbl hLx hM hk hn hx hzl hW hP i0 i1 ha1 ga1 ha2 ga2 q0 q1 kk
  · exact lo_isForProsecution_1 hl X hX hbl hLx hM hk hn hx hzl hW hP i0 i1 ha1 ga1 ha2 ga2 q0 kk
theorem lt_strength (hl : l.stackTraces = false) (X : CF p m cd code 9 s args RL) (hX : va_X b Lx xs s s.heap) (hbl : b < s.heap.size) (hLx : Lx ≤ 2560) (hM : MS E [] s H lo) (hk : kq + 60 ≤ 603072) (hn : nq + 4000 ≤ 7211113) (hx : s.heap.size ≤ x) (hI : LawI E x H) (i0 : 0 ≤ i) (i1 : i + 5 ≤ (Lx : Int)) (kk : ∀ (H1 : Heap) (lo1 : List Loc), MS E [] s H1 lo1 → LawI E x H1 → V p l e room_1 s m args below meth cd Q 9 H1 lo1 (kq + 60) (nq + 4000) 3555 [(5, .int (zI i)), (4, .ref (x + 340)), (3, .ref (x + 339)), (2, .ref (x + 334)), (1, .ref x), (0, .ref b)] []) : V p l e room_1 s m args below meth cd Q 9 H lo kq nq 1590 [(5, .int (zI i)), (4, .ref (x + 340)), (3, .ref (x + 339)), (2, .ref (x + 334)), (1, .ref x), (0, .ref b)] [] := by
  obtain ⟨hzl, v, N, f, nn, v2, N2, f2, n2, co, bf, cv, hc, nx, sz, hs, er, fa, ss, dk, se, po, si, pr, ml, ml2, mo, lg, dg, hW, hP⟩ := hI
  obtain ⟨a1, ha1⟩ : ∃ a, (xs (i + 1).toNat).toInt = a := ⟨_, rfl⟩
  have ga1 : Rg a1 := by rw [← ha1]; exact rg_t _
  obtain ⟨a2, ha2⟩ : ∃ a, (xs (i + 2).toNat).toInt = a := ⟨_, rfl⟩
  have ga2 : Rg a2 := by rw [← ha2]; exact rg_t _
  by_cases q0 : 0 ≤ a1 ∧ a1 < co 0 0
  · skip
    by_cases q1 : 0 ≤ a2 ∧ a2 < co 0 1
    · skip
      by_cases q2 : 0 < co 9 (a1 * 8 + a2)
      · skip
        exact lo_strength hl X hX hbl hLx hM hk hn hx hzl hW hP i0 i1 ha1 ga1 ha2 ga2 q0 q1 q2 kk
      · exact lo_strength_3 hl X hX hbl hLx hM hk hn hx hzl hW hP i0 i1 ha1 ga1 ha2 ga2 q0 q1 q2 kk
    · exact lo_strength_2 hl X hX hbl hLx hM hk hn hx hzl hW hP i0 i1 ha1 ga1 ha2 ga2 q0 q1 kk
  · exact lo_strength_1 hl X hX hbl hLx hM hk hn hx hzl hW hP i0 i1 ha1 ga1 ha2 ga2 q0 kk
theorem lt_questionCount (hl : l.stackTraces = false) (X : CF p m cd code 9 s args RL) (hX : va_X b Lx xs s s.heap) (hbl : b < s.heap.size) (hLx : Lx ≤ 2560) (hM : MS E [] s H lo) (hk : kq + 60 ≤ 603072) (hn : nq + 4000 ≤ 7211113) (hx : s.heap.size ≤ x) (hI : LawI E x H) (i0 : 0 ≤ i) (i1 : i + 5 ≤ (Lx : Int)) (kk : ∀ (H1 : Heap) (lo1 : List Loc), MS E [] s H1 lo1 → LawI E x H1 → V p l e room_1 s m args below meth cd Q 9 H1 lo1 (kq + 60) (nq + 4000) 3555 [(5, .int (zI i)), (4, .ref (x + 340)), (3, .ref (x + 339)), (2, .ref (x + 334)), (1, .ref x), (0, .ref b)] []) : V p l e room_1 s m args below meth cd Q 9 H lo kq nq 1658 [(5, .int (zI i)), (4, .ref (x + 340)), (3, .ref (x + 339)), (2, .ref (x + 334)), (1, .ref x), (0, .ref b)] [] := by
  obtain ⟨hzl, v, N, f, nn, v2, N2, f2, n2, co, bf, cv, hc, nx, sz, hs, er, fa, ss, dk, se, po, si, pr, ml, ml2, mo, lg, dg, hW, hP⟩ := hI
  obtain ⟨a1, ha1⟩ : ∃ a, (xs (i + 1).toNat).toInt = a := ⟨_, rfl⟩
  have ga1 : Rg a1 := by rw [← ha1]; exact rg_t _
  obtain ⟨a2, ha2⟩ : ∃ a, (xs (i + 2).toNat).toInt = a := ⟨_, rfl⟩
  have ga2 : Rg a2 := by rw [← ha2]; exact rg_t _
  by_cases q0 : 0 ≤ a1 ∧ a1 < co 0 0
  · skip
    by_cases q1 : 0 ≤ a2 ∧ a2 < co 0 1
    · skip
      by_cases q2 : 0 < co 9 (a1 * 8 + a2)
      · skip
        exact lo_questionCount hl X hX hbl hLx hM hk hn hx hzl hW hP i0 i1 ha1 ga1 ha2 ga2 q0 q1 q2 kk
      · exact lo_questionCount_3 hl X hX hbl hLx hM hk hn hx hzl hW hP i0 i1 ha1 ga1 ha2 ga2 q0 q1 q2 kk
    · exact lo_questionCount_2 hl X hX hbl hLx hM hk hn hx hzl hW hP i0 i1 ha1 ga1 ha2 ga2 q0 q1 kk
  · exact lo_questionCount_1 hl X hX hbl hLx hM hk hn hx hzl hW hP i0 i1 ha1 ga1 ha2 ga2 q0 kk
theorem lt_credibility (hl : l.stackTraces = false) (X : CF p m cd code 9 s args RL) (hX : va_X b Lx xs s s.heap) (hbl : b < s.heap.size) (hLx : Lx ≤ 2560) (hM : MS E [] s H lo) (hk : kq + 60 ≤ 603072) (hn : nq + 4000 ≤ 7211113) (hx : s.heap.size ≤ x) (hI : LawI E x H) (i0 : 0 ≤ i) (i1 : i + 5 ≤ (Lx : Int)) (kk : ∀ (H1 : Heap) (lo1 : List Loc), MS E [] s H1 lo1 → LawI E x H1 → V p l e room_1 s m args below meth cd Q 9 H1 lo1 (kq + 60) (nq + 4000) 3555 [(5, .int (zI i)), (4, .ref (x + 340)), (3, .ref (x + 339)), (2, .ref (x + 334)), (1, .ref x), (0, .ref b)] []) : V p l e room_1 s m args below meth cd Q 9 H lo kq nq 1739 [(5, .int (zI i)), (4, .ref (x + 340)), (3, .ref (x + 339)), (2, .ref (x + 334)), (1, .ref x), (0, .ref b)] [] := by
  obtain ⟨hzl, v, N, f, nn, v2, N2, f2, n2, co, bf, cv, hc, nx, sz, hs, er, fa, ss, dk, se, po, si, pr, ml, ml2, mo, lg, dg, hW, hP⟩ := hI
  obtain ⟨a1, ha1⟩ : ∃ a, (xs (i + 1).toNat).toInt = a := ⟨_, rfl⟩
  have ga1 : Rg a1 := by rw [← ha1]; exact rg_t _
  by_cases q0 : 0 ≤ a1 ∧ a1 < co 0 1
  · skip
    exact lo_credibility hl X hX hbl hLx hM hk hn hx hzl hW hP i0 i1 ha1 ga1 q0 kk
  · exact lo_credibility_1 hl X hX hbl hLx hM hk hn hx hzl hW hP i0 i1 ha1 ga1 q0 kk
theorem lt_casesOfWitness (hl : l.stackTraces = false) (X : CF p m cd code 9 s args RL) (hX : va_X b Lx xs s s.heap) (hbl : b < s.heap.size) (hLx : Lx ≤ 2560) (hM : MS E [] s H lo) (hk : kq + 60 ≤ 603072) (hn : nq + 4000 ≤ 7211113) (hx : s.heap.size ≤ x) (hI : LawI E x H) (i0 : 0 ≤ i) (i1 : i + 5 ≤ (Lx : Int)) (kk : ∀ (H1 : Heap) (lo1 : List Loc), MS E [] s H1 lo1 → LawI E x H1 → V p l e room_1 s m args below meth cd Q 9 H1 lo1 (kq + 60) (nq + 4000) 3555 [(5, .int (zI i)), (4, .ref (x + 340)), (3, .ref (x + 339)), (2, .ref (x + 334)), (1, .ref x), (0, .ref b)] []) : V p l e room_1 s m args below meth cd Q 9 H lo kq nq 1795 [(5, .int (zI i)), (4, .ref (x + 340)), (3, .ref (x + 339)), (2, .ref (x + 334)), (1, .ref x), (0, .ref b)] [] := by
  obtain ⟨hzl, v, N, f, nn, v2, N2, f2, n2, co, bf, cv, hc, nx, sz, hs, er, fa, ss, dk, se, po, si, pr, ml, ml2, mo, lg, dg, hW, hP⟩ := hI
  obtain ⟨a1, ha1⟩ : ∃ a, (xs (i + 1).toNat).toInt = a := ⟨_, rfl⟩
  have ga1 : Rg a1 := by rw [← ha1]; exact rg_t _
  by_cases q0 : 0 ≤ a1 ∧ a1 < co 0 1
  · skip
    exact lo_casesOfWitness hl X hX hbl hLx hM hk hn hx hzl hW hP i0 i1 ha1 ga1 q0 kk
  · exact lo_casesOfWitness_1 hl X hX hbl hLx hM hk hn hx hzl hW hP i0 i1 ha1 ga1 q0 kk
theorem lt_mostCredible (hl : l.stackTraces = false) (X : CF p m cd code 9 s args RL) (hX : va_X b Lx xs s s.heap) (hbl : b < s.heap.size) (hLx : Lx ≤ 2560) (hM : MS E [] s H lo) (hk : kq + 60 ≤ 603072) (hn : nq + 4000 ≤ 7211113) (hx : s.heap.size ≤ x) (hI : LawI E x H) (i0 : 0 ≤ i) (i1 : i + 5 ≤ (Lx : Int)) (kk : ∀ (H1 : Heap) (lo1 : List Loc), MS E [] s H1 lo1 → LawI E x H1 → V p l e room_1 s m args below meth cd Q 9 H1 lo1 (kq + 60) (nq + 4000) 3555 [(5, .int (zI i)), (4, .ref (x + 340)), (3, .ref (x + 339)), (2, .ref (x + 334)), (1, .ref x), (0, .ref b)] []) : V p l e room_1 s m args below meth cd Q 9 H lo kq nq 1851 [(5, .int (zI i)), (4, .ref (x + 340)), (3, .ref (x + 339)), (2, .ref (x + 334)), (1, .ref x), (0, .ref b)] [] := by
  obtain ⟨hzl, v, N, f, nn, v2, N2, f2, n2, co, bf, cv, hc, nx, sz, hs, er, fa, ss, dk, se, po, si, pr, ml, ml2, mo, lg, dg, hW, hP⟩ := hI
  obtain ⟨a1, ha1⟩ : ∃ a, (xs (i + 1).toNat).toInt = a := ⟨_, rfl⟩
  have ga1 : Rg a1 := by rw [← ha1]; exact rg_t _
  by_cases q0 : 0 ≤ firstZ (fun j => rkC co j = a1) (co 0 1).toNat
  · skip
    exact lo_mostCredible hl X hX hbl hLx hM hk hn hx hzl hW hP i0 i1 ha1 ga1 q0 kk
  · exact lo_mostCredible_1 hl X hX hbl hLx hM hk hn hx hzl hW hP i0 i1 ha1 ga1 q0 kk
theorem lt_agreement (hl : l.stackTraces = false) (X : CF p m cd code 9 s args RL) (hX : va_X b Lx xs s s.heap) (hbl : b < s.heap.size) (hLx : Lx ≤ 2560) (hM : MS E [] s H lo) (hk : kq + 60 ≤ 603072) (hn : nq + 4000 ≤ 7211113) (hx : s.heap.size ≤ x) (hI : LawI E x H) (i0 : 0 ≤ i) (i1 : i + 5 ≤ (Lx : Int)) (kk : ∀ (H1 : Heap) (lo1 : List Loc), MS E [] s H1 lo1 → LawI E x H1 → V p l e room_1 s m args below meth cd Q 9 H1 lo1 (kq + 60) (nq + 4000) 3555 [(5, .int (zI i)), (4, .ref (x + 340)), (3, .ref (x + 339)), (2, .ref (x + 334)), (1, .ref x), (0, .ref b)] []) : V p l e room_1 s m args below meth cd Q 9 H lo kq nq 1907 [(5, .int (zI i)), (4, .ref (x + 340)), (3, .ref (x + 339)), (2, .ref (x + 334)), (1, .ref x), (0, .ref b)] [] := by
  obtain ⟨hzl, v, N, f, nn, v2, N2, f2, n2, co, bf, cv, hc, nx, sz, hs, er, fa, ss, dk, se, po, si, pr, ml, ml2, mo, lg, dg, hW, hP⟩ := hI
  obtain ⟨a1, ha1⟩ : ∃ a, (xs (i + 1).toNat).toInt = a := ⟨_, rfl⟩
  have ga1 : Rg a1 := by rw [← ha1]; exact rg_t _
  obtain ⟨a2, ha2⟩ : ∃ a, (xs (i + 2).toNat).toInt = a := ⟨_, rfl⟩
  have ga2 : Rg a2 := by rw [← ha2]; exact rg_t _
  by_cases q0 : 0 ≤ a1 ∧ a1 < co 0 1
  · skip
    by_cases q1 : 0 ≤ a2 ∧ a2 < co 0 1
    · skip
      exact lo_agreement hl X hX hbl hLx hM hk hn hx hzl hW hP i0 i1 ha1 ga1 ha2 ga2 q0 q1 kk
    · exact lo_agreement_2 hl X hX hbl hLx hM hk hn hx hzl hW hP i0 i1 ha1 ga1 ha2 ga2 q0 q1 kk
  · exact lo_agreement_1 hl X hX hbl hLx hM hk hn hx hzl hW hP i0 i1 ha1 ga1 ha2 ga2 q0 kk
theorem lt_areConnected (hl : l.stackTraces = false) (X : CF p m cd code 9 s args RL) (hX : va_X b Lx xs s s.heap) (hbl : b < s.heap.size) (hLx : Lx ≤ 2560) (hM : MS E [] s H lo) (hk : kq + 60 ≤ 603072) (hn : nq + 4000 ≤ 7211113) (hx : s.heap.size ≤ x) (hI : LawI E x H) (i0 : 0 ≤ i) (i1 : i + 5 ≤ (Lx : Int)) (kk : ∀ (H1 : Heap) (lo1 : List Loc), MS E [] s H1 lo1 → LawI E x H1 → V p l e room_1 s m args below meth cd Q 9 H1 lo1 (kq + 60) (nq + 4000) 3555 [(5, .int (zI i)), (4, .ref (x + 340)), (3, .ref (x + 339)), (2, .ref (x + 334)), (1, .ref x), (0, .ref b)] []) : V p l e room_1 s m args below meth cd Q 9 H lo kq nq 1975 [(5, .int (zI i)), (4, .ref (x + 340)), (3, .ref (x + 339)), (2, .ref (x + 334)), (1, .ref x), (0, .ref b)] [] := by
  obtain ⟨hzl, v, N, f, nn, v2, N2, f2, n2, co, bf, cv, hc, nx, sz, hs, er, fa, ss, dk, se, po, si, pr, ml, ml2, mo, lg, dg, hW, hP⟩ := hI
  obtain ⟨a1, ha1⟩ : ∃ a, (xs (i + 1).toNat).toInt = a := ⟨_, rfl⟩
  have ga1 : Rg a1 := by rw [← ha1]; exact rg_t _
  obtain ⟨a2, ha2⟩ : ∃ a, (xs (i + 2).toNat).toInt = a := ⟨_, rfl⟩
  have ga2 : Rg a2 := by rw [← ha2]; exact rg_t _
  by_cases q0 : 0 ≤ a1 ∧ a1 < co 0 1
  · skip
    by_cases q1 : 0 ≤ a2 ∧ a2 < co 0 1
    · skip
      exact lo_areConnected hl X hX hbl hLx hM hk hn hx hzl hW hP i0 i1 ha1 ga1 ha2 ga2 q0 q1 kk
    · exact lo_areConnected_2 hl X hX hbl hLx hM hk hn hx hzl hW hP i0 i1 ha1 ga1 ha2 ga2 q0 q1 kk
  · exact lo_areConnected_1 hl X hX hbl hLx hM hk hn hx hzl hW hP i0 i1 ha1 ga1 ha2 ga2 q0 kk
theorem lt_groupSize (hl : l.stackTraces = false) (X : CF p m cd code 9 s args RL) (hX : va_X b Lx xs s s.heap) (hbl : b < s.heap.size) (hLx : Lx ≤ 2560) (hM : MS E [] s H lo) (hk : kq + 60 ≤ 603072) (hn : nq + 4000 ≤ 7211113) (hx : s.heap.size ≤ x) (hI : LawI E x H) (i0 : 0 ≤ i) (i1 : i + 5 ≤ (Lx : Int)) (kk : ∀ (H1 : Heap) (lo1 : List Loc), MS E [] s H1 lo1 → LawI E x H1 → V p l e room_1 s m args below meth cd Q 9 H1 lo1 (kq + 60) (nq + 4000) 3555 [(5, .int (zI i)), (4, .ref (x + 340)), (3, .ref (x + 339)), (2, .ref (x + 334)), (1, .ref x), (0, .ref b)] []) : V p l e room_1 s m args below meth cd Q 9 H lo kq nq 2125 [(5, .int (zI i)), (4, .ref (x + 340)), (3, .ref (x + 339)), (2, .ref (x + 334)), (1, .ref x), (0, .ref b)] [] := by
  obtain ⟨hzl, v, N, f, nn, v2, N2, f2, n2, co, bf, cv, hc, nx, sz, hs, er, fa, ss, dk, se, po, si, pr, ml, ml2, mo, lg, dg, hW, hP⟩ := hI
  obtain ⟨a1, ha1⟩ : ∃ a, (xs (i + 1).toNat).toInt = a := ⟨_, rfl⟩
  have ga1 : Rg a1 := by rw [← ha1]; exact rg_t _
  by_cases q0 : 0 ≤ a1 ∧ a1 < co 0 1
  · skip
    exact lo_groupSize hl X hX hbl hLx hM hk hn hx hzl hW hP i0 i1 ha1 ga1 q0 kk
  · exact lo_groupSize_1 hl X hX hbl hLx hM hk hn hx hzl hW hP i0 i1 ha1 ga1 q0 kk
theorem lt_heaviestWitness (hl : l.stackTraces = false) (X : CF p m cd code 9 s args RL) (hX : va_X b Lx xs s s.heap) (hbl : b < s.heap.size) (hLx : Lx ≤ 2560) (hM : MS E [] s H lo) (hk : kq + 60 ≤ 603072) (hn : nq + 4000 ≤ 7211113) (hx : s.heap.size ≤ x) (hI : LawI E x H) (i0 : 0 ≤ i) (i1 : i + 5 ≤ (Lx : Int)) (kk : ∀ (H1 : Heap) (lo1 : List Loc), MS E [] s H1 lo1 → LawI E x H1 → V p l e room_1 s m args below meth cd Q 9 H1 lo1 (kq + 60) (nq + 4000) 3555 [(5, .int (zI i)), (4, .ref (x + 340)), (3, .ref (x + 339)), (2, .ref (x + 334)), (1, .ref x), (0, .ref b)] []) : V p l e room_1 s m args below meth cd Q 9 H lo kq nq 2194 [(5, .int (zI i)), (4, .ref (x + 340)), (3, .ref (x + 339)), (2, .ref (x + 334)), (1, .ref x), (0, .ref b)] [] := by
  obtain ⟨hzl, v, N, f, nn, v2, N2, f2, n2, co, bf, cv, hc, nx, sz, hs, er, fa, ss, dk, se, po, si, pr, ml, ml2, mo, lg, dg, hW, hP⟩ := hI
  obtain ⟨a1, ha1⟩ : ∃ a, (xs (i + 1).toNat).toInt = a := ⟨_, rfl⟩
  have ga1 : Rg a1 := by rw [← ha1]; exact rg_t _
  by_cases q0 : 0 ≤ a1 ∧ a1 < co 0 0
  · skip
    by_cases q1 : 0 < co 6 a1
    · skip
      exact lo_heaviestWitness hl X hX hbl hLx hM hk hn hx hzl hW hP i0 i1 ha1 ga1 q0 q1 kk
    · exact lo_heaviestWitness_2 hl X hX hbl hLx hM hk hn hx hzl hW hP i0 i1 ha1 ga1 q0 q1 kk
  · exact lo_heaviestWitness_1 hl X hX hbl hLx hM hk hn hx hzl hW hP i0 i1 ha1 ga1 q0 kk
theorem lt_prosecutionWeight (hl : l.stackTraces = false) (X : CF p m cd code 9 s args RL) (hX : va_X b Lx xs s s.heap) (hbl : b < s.heap.size) (hLx : Lx ≤ 2560) (hM : MS E [] s H lo) (hk : kq + 60 ≤ 603072) (hn : nq + 4000 ≤ 7211113) (hx : s.heap.size ≤ x) (hI : LawI E x H) (i0 : 0 ≤ i) (i1 : i + 5 ≤ (Lx : Int)) (kk : ∀ (H1 : Heap) (lo1 : List Loc), MS E [] s H1 lo1 → LawI E x H1 → V p l e room_1 s m args below meth cd Q 9 H1 lo1 (kq + 60) (nq + 4000) 3555 [(5, .int (zI i)), (4, .ref (x + 340)), (3, .ref (x + 339)), (2, .ref (x + 334)), (1, .ref x), (0, .ref b)] []) : V p l e room_1 s m args below meth cd Q 9 H lo kq nq 2294 [(5, .int (zI i)), (4, .ref (x + 340)), (3, .ref (x + 339)), (2, .ref (x + 334)), (1, .ref x), (0, .ref b)] [] := by
  obtain ⟨hzl, v, N, f, nn, v2, N2, f2, n2, co, bf, cv, hc, nx, sz, hs, er, fa, ss, dk, se, po, si, pr, ml, ml2, mo, lg, dg, hW, hP⟩ := hI
  obtain ⟨a1, ha1⟩ : ∃ a, (xs (i + 1).toNat).toInt = a := ⟨_, rfl⟩
  have ga1 : Rg a1 := by rw [← ha1]; exact rg_t _
  by_cases q0 : 0 ≤ a1 ∧ a1 < co 0 0
  · skip
    exact lo_prosecutionWeight hl X hX hbl hLx hM hk hn hx hzl hW hP i0 i1 ha1 ga1 q0 kk
  · exact lo_prosecutionWeight_1 hl X hX hbl hLx hM hk hn hx hzl hW hP i0 i1 ha1 ga1 q0 kk
theorem lt_defenceWeight (hl : l.stackTraces = false) (X : CF p m cd code 9 s args RL) (hX : va_X b Lx xs s s.heap) (hbl : b < s.heap.size) (hLx : Lx ≤ 2560) (hM : MS E [] s H lo) (hk : kq + 60 ≤ 603072) (hn : nq + 4000 ≤ 7211113) (hx : s.heap.size ≤ x) (hI : LawI E x H) (i0 : 0 ≤ i) (i1 : i + 5 ≤ (Lx : Int)) (kk : ∀ (H1 : Heap) (lo1 : List Loc), MS E [] s H1 lo1 → LawI E x H1 → V p l e room_1 s m args below meth cd Q 9 H1 lo1 (kq + 60) (nq + 4000) 3555 [(5, .int (zI i)), (4, .ref (x + 340)), (3, .ref (x + 339)), (2, .ref (x + 334)), (1, .ref x), (0, .ref b)] []) : V p l e room_1 s m args below meth cd Q 9 H lo kq nq 2350 [(5, .int (zI i)), (4, .ref (x + 340)), (3, .ref (x + 339)), (2, .ref (x + 334)), (1, .ref x), (0, .ref b)] [] := by
  obtain ⟨hzl, v, N, f, nn, v2, N2, f2, n2, co, bf, cv, hc, nx, sz, hs, er, fa, ss, dk, se, po, si, pr, ml, ml2, mo, lg, dg, hW, hP⟩ := hI
  obtain ⟨a1, ha1⟩ : ∃ a, (xs (i + 1).toNat).toInt = a := ⟨_, rfl⟩
  have ga1 : Rg a1 := by rw [← ha1]; exact rg_t _
  by_cases q0 : 0 ≤ a1 ∧ a1 < co 0 0
  · skip
    exact lo_defenceWeight hl X hX hbl hLx hM hk hn hx hzl hW hP i0 i1 ha1 ga1 q0 kk
  · exact lo_defenceWeight_1 hl X hX hbl hLx hM hk hn hx hzl hW hP i0 i1 ha1 ga1 q0 kk
theorem lt_margin (hl : l.stackTraces = false) (X : CF p m cd code 9 s args RL) (hX : va_X b Lx xs s s.heap) (hbl : b < s.heap.size) (hLx : Lx ≤ 2560) (hM : MS E [] s H lo) (hk : kq + 60 ≤ 603072) (hn : nq + 4000 ≤ 7211113) (hx : s.heap.size ≤ x) (hI : LawI E x H) (i0 : 0 ≤ i) (i1 : i + 5 ≤ (Lx : Int)) (kk : ∀ (H1 : Heap) (lo1 : List Loc), MS E [] s H1 lo1 → LawI E x H1 → V p l e room_1 s m args below meth cd Q 9 H1 lo1 (kq + 60) (nq + 4000) 3555 [(5, .int (zI i)), (4, .ref (x + 340)), (3, .ref (x + 339)), (2, .ref (x + 334)), (1, .ref x), (0, .ref b)] []) : V p l e room_1 s m args below meth cd Q 9 H lo kq nq 2406 [(5, .int (zI i)), (4, .ref (x + 340)), (3, .ref (x + 339)), (2, .ref (x + 334)), (1, .ref x), (0, .ref b)] [] := by
  obtain ⟨hzl, v, N, f, nn, v2, N2, f2, n2, co, bf, cv, hc, nx, sz, hs, er, fa, ss, dk, se, po, si, pr, ml, ml2, mo, lg, dg, hW, hP⟩ := hI
  obtain ⟨a1, ha1⟩ : ∃ a, (xs (i + 1).toNat).toInt = a := ⟨_, rfl⟩
  have ga1 : Rg a1 := by rw [← ha1]; exact rg_t _
  by_cases q0 : 0 ≤ a1 ∧ a1 < co 0 0
  · skip
    exact lo_margin hl X hX hbl hLx hM hk hn hx hzl hW hP i0 i1 ha1 ga1 q0 kk
  · exact lo_margin_1 hl X hX hbl hLx hM hk hn hx hzl hW hP i0 i1 ha1 ga1 q0 kk
theorem lt_marginByCredibility (hl : l.stackTraces = false) (X : CF p m cd code 9 s args RL) (hX : va_X b Lx xs s s.heap) (hbl : b < s.heap.size) (hLx : Lx ≤ 2560) (hM : MS E [] s H lo) (hk : kq + 60 ≤ 603072) (hn : nq + 4000 ≤ 7211113) (hx : s.heap.size ≤ x) (hI : LawI E x H) (i0 : 0 ≤ i) (i1 : i + 5 ≤ (Lx : Int)) (kk : ∀ (H1 : Heap) (lo1 : List Loc), MS E [] s H1 lo1 → LawI E x H1 → V p l e room_1 s m args below meth cd Q 9 H1 lo1 (kq + 60) (nq + 4000) 3555 [(5, .int (zI i)), (4, .ref (x + 340)), (3, .ref (x + 339)), (2, .ref (x + 334)), (1, .ref x), (0, .ref b)] []) : V p l e room_1 s m args below meth cd Q 9 H lo kq nq 2462 [(5, .int (zI i)), (4, .ref (x + 340)), (3, .ref (x + 339)), (2, .ref (x + 334)), (1, .ref x), (0, .ref b)] [] := by
  obtain ⟨hzl, v, N, f, nn, v2, N2, f2, n2, co, bf, cv, hc, nx, sz, hs, er, fa, ss, dk, se, po, si, pr, ml, ml2, mo, lg, dg, hW, hP⟩ := hI
  obtain ⟨a1, ha1⟩ : ∃ a, (xs (i + 1).toNat).toInt = a := ⟨_, rfl⟩
  have ga1 : Rg a1 := by rw [← ha1]; exact rg_t _
  by_cases q0 : 0 ≤ a1 ∧ a1 < co 0 0
  · skip
    exact lo_marginByCredibility hl X hX hbl hLx hM hk hn hx hzl hW hP i0 i1 ha1 ga1 q0 kk
  · exact lo_marginByCredibility_1 hl X hX hbl hLx hM hk hn hx hzl hW hP i0 i1 ha1 ga1 q0 kk
theorem lt_firmAnswersToGuilty (hl : l.stackTraces = false) (X : CF p m cd code 9 s args RL) (hX : va_X b Lx xs s s.heap) (hbl : b < s.heap.size) (hLx : Lx ≤ 2560) (hM : MS E [] s H lo) (hk : kq + 60 ≤ 603072) (hn : nq + 4000 ≤ 7211113) (hx : s.heap.size ≤ x) (hI : LawI E x H) (i0 : 0 ≤ i) (i1 : i + 5 ≤ (Lx : Int)) (kk : ∀ (H1 : Heap) (lo1 : List Loc), MS E [] s H1 lo1 → LawI E x H1 → V p l e room_1 s m args below meth cd Q 9 H1 lo1 (kq + 60) (nq + 4000) 3555 [(5, .int (zI i)), (4, .ref (x + 340)), (3, .ref (x + 339)), (2, .ref (x + 334)), (1, .ref x), (0, .ref b)] []) : V p l e room_1 s m args below meth cd Q 9 H lo kq nq 2518 [(5, .int (zI i)), (4, .ref (x + 340)), (3, .ref (x + 339)), (2, .ref (x + 334)), (1, .ref x), (0, .ref b)] [] := by
  obtain ⟨hzl, v, N, f, nn, v2, N2, f2, n2, co, bf, cv, hc, nx, sz, hs, er, fa, ss, dk, se, po, si, pr, ml, ml2, mo, lg, dg, hW, hP⟩ := hI
  obtain ⟨a1, ha1⟩ : ∃ a, (xs (i + 1).toNat).toInt = a := ⟨_, rfl⟩
  have ga1 : Rg a1 := by rw [← ha1]; exact rg_t _
  obtain ⟨a2, ha2⟩ : ∃ a, (xs (i + 2).toNat).toInt = a := ⟨_, rfl⟩
  have ga2 : Rg a2 := by rw [← ha2]; exact rg_t _
  by_cases q0 : 0 ≤ a1 ∧ a1 < co 0 0
  · skip
    by_cases q1 : 0 ≤ a2 ∧ a2 < co 0 1
    · skip
      by_cases q2 : 0 < co 9 (a1 * 8 + a2)
      · skip
        by_cases q3 : 0 ≤ faC co a1 a2
        · skip
          exact lo_firmAnswersToGuilty hl X hX hbl hLx hM hk hn hx hzl hW hP i0 i1 ha1 ga1 ha2 ga2 q0 q1 q2 q3 kk
        · exact lo_firmAnswersToGuilty_4 hl X hX hbl hLx hM hk hn hx hzl hW hP i0 i1 ha1 ga1 ha2 ga2 q0 q1 q2 q3 kk
      · exact lo_firmAnswersToGuilty_3 hl X hX hbl hLx hM hk hn hx hzl hW hP i0 i1 ha1 ga1 ha2 ga2 q0 q1 q2 kk
    · exact lo_firmAnswersToGuilty_2 hl X hX hbl hLx hM hk hn hx hzl hW hP i0 i1 ha1 ga1 ha2 ga2 q0 q1 kk
  · exact lo_firmAnswersToGuilty_1 hl X hX hbl hLx hM hk hn hx hzl hW hP i0 i1 ha1 ga1 ha2 ga2 q0 kk
theorem lt_sentence (hl : l.stackTraces = false) (X : CF p m cd code 9 s args RL) (hX : va_X b Lx xs s s.heap) (hbl : b < s.heap.size) (hLx : Lx ≤ 2560) (hM : MS E [] s H lo) (hk : kq + 60 ≤ 603072) (hn : nq + 4000 ≤ 7211113) (hx : s.heap.size ≤ x) (hI : LawI E x H) (i0 : 0 ≤ i) (i1 : i + 5 ≤ (Lx : Int)) (kk : ∀ (H1 : Heap) (lo1 : List Loc), MS E [] s H1 lo1 → LawI E x H1 → V p l e room_1 s m args below meth cd Q 9 H1 lo1 (kq + 60) (nq + 4000) 3555 [(5, .int (zI i)), (4, .ref (x + 340)), (3, .ref (x + 339)), (2, .ref (x + 334)), (1, .ref x), (0, .ref b)] []) : V p l e room_1 s m args below meth cd Q 9 H lo kq nq 2586 [(5, .int (zI i)), (4, .ref (x + 340)), (3, .ref (x + 339)), (2, .ref (x + 334)), (1, .ref x), (0, .ref b)] [] := by
  obtain ⟨hzl, v, N, f, nn, v2, N2, f2, n2, co, bf, cv, hc, nx, sz, hs, er, fa, ss, dk, se, po, si, pr, ml, ml2, mo, lg, dg, hW, hP⟩ := hI
  obtain ⟨a1, ha1⟩ : ∃ a, (xs (i + 1).toNat).toInt = a := ⟨_, rfl⟩
  have ga1 : Rg a1 := by rw [← ha1]; exact rg_t _
  by_cases q0 : 0 ≤ a1 ∧ a1 < 6
  · skip
    exact lo_sentence hl X hX hbl hLx hM hk hn hx hzl hW hP i0 i1 ha1 ga1 q0 kk
  · exact lo_sentence_1 hl X hX hbl hLx hM hk hn hx hzl hW hP i0 i1 ha1 ga1 q0 kk
theorem lt_sentenceByCases (hl : l.stackTraces = false) (X : CF p m cd code 9 s args RL) (hX : va_X b Lx xs s s.heap) (hbl : b < s.heap.size) (hLx : Lx ≤ 2560) (hM : MS E [] s H lo) (hk : kq + 60 ≤ 603072) (hn : nq + 4000 ≤ 7211113) (hx : s.heap.size ≤ x) (hI : LawI E x H) (i0 : 0 ≤ i) (i1 : i + 5 ≤ (Lx : Int)) (kk : ∀ (H1 : Heap) (lo1 : List Loc), MS E [] s H1 lo1 → LawI E x H1 → V p l e room_1 s m args below meth cd Q 9 H1 lo1 (kq + 60) (nq + 4000) 3555 [(5, .int (zI i)), (4, .ref (x + 340)), (3, .ref (x + 339)), (2, .ref (x + 334)), (1, .ref x), (0, .ref b)] []) : V p l e room_1 s m args below meth cd Q 9 H lo kq nq 2642 [(5, .int (zI i)), (4, .ref (x + 340)), (3, .ref (x + 339)), (2, .ref (x + 334)), (1, .ref x), (0, .ref b)] [] := by
  obtain ⟨hzl, v, N, f, nn, v2, N2, f2, n2, co, bf, cv, hc, nx, sz, hs, er, fa, ss, dk, se, po, si, pr, ml, ml2, mo, lg, dg, hW, hP⟩ := hI
  obtain ⟨a1, ha1⟩ : ∃ a, (xs (i + 1).toNat).toInt = a := ⟨_, rfl⟩
  have ga1 : Rg a1 := by rw [← ha1]; exact rg_t _
  by_cases q0 : 0 ≤ a1 ∧ a1 < 6
  · skip
    exact lo_sentenceByCases hl X hX hbl hLx hM hk hn hx hzl hW hP i0 i1 ha1 ga1 q0 kk
  · exact lo_sentenceByCases_1 hl X hX hbl hLx hM hk hn hx hzl hW hP i0 i1 ha1 ga1 q0 kk
theorem lt_caseCount (hl : l.stackTraces = false) (X : CF p m cd code 9 s args RL) (hX : va_X b Lx xs s s.heap) (hbl : b < s.heap.size) (hLx : Lx ≤ 2560) (hM : MS E [] s H lo) (hk : kq + 60 ≤ 603072) (hn : nq + 4000 ≤ 7211113) (hx : s.heap.size ≤ x) (hI : LawI E x H) (i0 : 0 ≤ i) (i1 : i + 5 ≤ (Lx : Int)) (kk : ∀ (H1 : Heap) (lo1 : List Loc), MS E [] s H1 lo1 → LawI E x H1 → V p l e room_1 s m args below meth cd Q 9 H1 lo1 (kq + 60) (nq + 4000) 3555 [(5, .int (zI i)), (4, .ref (x + 340)), (3, .ref (x + 339)), (2, .ref (x + 334)), (1, .ref x), (0, .ref b)] []) : V p l e room_1 s m args below meth cd Q 9 H lo kq nq 815 [(5, .int (zI i)), (4, .ref (x + 340)), (3, .ref (x + 339)), (2, .ref (x + 334)), (1, .ref x), (0, .ref b)] [] := by
  obtain ⟨hzl, v, N, f, nn, v2, N2, f2, n2, co, bf, cv, hc, nx, sz, hs, er, fa, ss, dk, se, po, si, pr, ml, ml2, mo, lg, dg, hW, hP⟩ := hI
  exact lo_caseCount hl X hX hbl hLx hM hk hn hx hzl hW hP i0 i1 kk
theorem lt_witnessCount (hl : l.stackTraces = false) (X : CF p m cd code 9 s args RL) (hX : va_X b Lx xs s s.heap) (hbl : b < s.heap.size) (hLx : Lx ≤ 2560) (hM : MS E [] s H lo) (hk : kq + 60 ≤ 603072) (hn : nq + 4000 ≤ 7211113) (hx : s.heap.size ≤ x) (hI : LawI E x H) (i0 : 0 ≤ i) (i1 : i + 5 ≤ (Lx : Int)) (kk : ∀ (H1 : Heap) (lo1 : List Loc), MS E [] s H1 lo1 → LawI E x H1 → V p l e room_1 s m args below meth cd Q 9 H1 lo1 (kq + 60) (nq + 4000) 3555 [(5, .int (zI i)), (4, .ref (x + 340)), (3, .ref (x + 339)), (2, .ref (x + 334)), (1, .ref x), (0, .ref b)] []) : V p l e room_1 s m args below meth cd Q 9 H lo kq nq 1726 [(5, .int (zI i)), (4, .ref (x + 340)), (3, .ref (x + 339)), (2, .ref (x + 334)), (1, .ref x), (0, .ref b)] [] := by
  obtain ⟨hzl, v, N, f, nn, v2, N2, f2, n2, co, bf, cv, hc, nx, sz, hs, er, fa, ss, dk, se, po, si, pr, ml, ml2, mo, lg, dg, hW, hP⟩ := hI
  exact lo_witnessCount hl X hX hbl hLx hM hk hn hx hzl hW hP i0 i1 kk
theorem lt_groupCount (hl : l.stackTraces = false) (X : CF p m cd code 9 s args RL) (hX : va_X b Lx xs s s.heap) (hbl : b < s.heap.size) (hLx : Lx ≤ 2560) (hM : MS E [] s H lo) (hk : kq + 60 ≤ 603072) (hn : nq + 4000 ≤ 7211113) (hx : s.heap.size ≤ x) (hI : LawI E x H) (i0 : 0 ≤ i) (i1 : i + 5 ≤ (Lx : Int)) (kk : ∀ (H1 : Heap) (lo1 : List Loc), MS E [] s H1 lo1 → LawI E x H1 → V p l e room_1 s m args below meth cd Q 9 H1 lo1 (kq + 60) (nq + 4000) 3555 [(5, .int (zI i)), (4, .ref (x + 340)), (3, .ref (x + 339)), (2, .ref (x + 334)), (1, .ref x), (0, .ref b)] []) : V p l e room_1 s m args below meth cd Q 9 H lo kq nq 2181 [(5, .int (zI i)), (4, .ref (x + 340)), (3, .ref (x + 339)), (2, .ref (x + 334)), (1, .ref x), (0, .ref b)] [] := by
  obtain ⟨hzl, v, N, f, nn, v2, N2, f2, n2, co, bf, cv, hc, nx, sz, hs, er, fa, ss, dk, se, po, si, pr, ml, ml2, mo, lg, dg, hW, hP⟩ := hI
  exact lo_groupCount hl X hX hbl hLx hM hk hn hx hzl hW hP i0 i1 kk
theorem lt_mostSentenced (hl : l.stackTraces = false) (X : CF p m cd code 9 s args RL) (hX : va_X b Lx xs s s.heap) (hbl : b < s.heap.size) (hLx : Lx ≤ 2560) (hM : MS E [] s H lo) (hk : kq + 60 ≤ 603072) (hn : nq + 4000 ≤ 7211113) (hx : s.heap.size ≤ x) (hI : LawI E x H) (i0 : 0 ≤ i) (i1 : i + 5 ≤ (Lx : Int)) (kk : ∀ (H1 : Heap) (lo1 : List Loc), MS E [] s H1 lo1 → LawI E x H1 → V p l e room_1 s m args below meth cd Q 9 H1 lo1 (kq + 60) (nq + 4000) 3555 [(5, .int (zI i)), (4, .ref (x + 340)), (3, .ref (x + 339)), (2, .ref (x + 334)), (1, .ref x), (0, .ref b)] []) : V p l e room_1 s m args below meth cd Q 9 H lo kq nq 2698 [(5, .int (zI i)), (4, .ref (x + 340)), (3, .ref (x + 339)), (2, .ref (x + 334)), (1, .ref x), (0, .ref b)] [] := by
  obtain ⟨hzl, v, N, f, nn, v2, N2, f2, n2, co, bf, cv, hc, nx, sz, hs, er, fa, ss, dk, se, po, si, pr, ml, ml2, mo, lg, dg, hW, hP⟩ := hI
  exact lo_mostSentenced hl X hX hbl hLx hM hk hn hx hzl hW hP i0 i1 kk
theorem lt_closedCount (hl : l.stackTraces = false) (X : CF p m cd code 9 s args RL) (hX : va_X b Lx xs s s.heap) (hbl : b < s.heap.size) (hLx : Lx ≤ 2560) (hM : MS E [] s H lo) (hk : kq + 60 ≤ 603072) (hn : nq + 4000 ≤ 7211113) (hx : s.heap.size ≤ x) (hI : LawI E x H) (i0 : 0 ≤ i) (i1 : i + 5 ≤ (Lx : Int)) (kk : ∀ (H1 : Heap) (lo1 : List Loc), MS E [] s H1 lo1 → LawI E x H1 → V p l e room_1 s m args below meth cd Q 9 H1 lo1 (kq + 60) (nq + 4000) 3555 [(5, .int (zI i)), (4, .ref (x + 340)), (3, .ref (x + 339)), (2, .ref (x + 334)), (1, .ref x), (0, .ref b)] []) : V p l e room_1 s m args below meth cd Q 9 H lo kq nq 2836 [(5, .int (zI i)), (4, .ref (x + 340)), (3, .ref (x + 339)), (2, .ref (x + 334)), (1, .ref x), (0, .ref b)] [] := by
  obtain ⟨hzl, v, N, f, nn, v2, N2, f2, n2, co, bf, cv, hc, nx, sz, hs, er, fa, ss, dk, se, po, si, pr, ml, ml2, mo, lg, dg, hW, hP⟩ := hI
  exact lo_closedCount hl X hX hbl hLx hM hk hn hx hzl hW hP i0 i1 kk
theorem lt_guiltyCount (hl : l.stackTraces = false) (X : CF p m cd code 9 s args RL) (hX : va_X b Lx xs s s.heap) (hbl : b < s.heap.size) (hLx : Lx ≤ 2560) (hM : MS E [] s H lo) (hk : kq + 60 ≤ 603072) (hn : nq + 4000 ≤ 7211113) (hx : s.heap.size ≤ x) (hI : LawI E x H) (i0 : 0 ≤ i) (i1 : i + 5 ≤ (Lx : Int)) (kk : ∀ (H1 : Heap) (lo1 : List Loc), MS E [] s H1 lo1 → LawI E x H1 → V p l e room_1 s m args below meth cd Q 9 H1 lo1 (kq + 60) (nq + 4000) 3555 [(5, .int (zI i)), (4, .ref (x + 340)), (3, .ref (x + 339)), (2, .ref (x + 334)), (1, .ref x), (0, .ref b)] []) : V p l e room_1 s m args below meth cd Q 9 H lo kq nq 2849 [(5, .int (zI i)), (4, .ref (x + 340)), (3, .ref (x + 339)), (2, .ref (x + 334)), (1, .ref x), (0, .ref b)] [] := by
  obtain ⟨hzl, v, N, f, nn, v2, N2, f2, n2, co, bf, cv, hc, nx, sz, hs, er, fa, ss, dk, se, po, si, pr, ml, ml2, mo, lg, dg, hW, hP⟩ := hI
  exact lo_guiltyCount hl X hX hbl hLx hM hk hn hx hzl hW hP i0 i1 kk
theorem lt_decisionCount (hl : l.stackTraces = false) (X : CF p m cd code 9 s args RL) (hX : va_X b Lx xs s s.heap) (hbl : b < s.heap.size) (hLx : Lx ≤ 2560) (hM : MS E [] s H lo) (hk : kq + 60 ≤ 603072) (hn : nq + 4000 ≤ 7211113) (hx : s.heap.size ≤ x) (hI : LawI E x H) (i0 : 0 ≤ i) (i1 : i + 5 ≤ (Lx : Int)) (kk : ∀ (H1 : Heap) (lo1 : List Loc), MS E [] s H1 lo1 → LawI E x H1 → V p l e room_1 s m args below meth cd Q 9 H1 lo1 (kq + 60) (nq + 4000) 3555 [(5, .int (zI i)), (4, .ref (x + 340)), (3, .ref (x + 339)), (2, .ref (x + 334)), (1, .ref x), (0, .ref b)] []) : V p l e room_1 s m args below meth cd Q 9 H lo kq nq 2862 [(5, .int (zI i)), (4, .ref (x + 340)), (3, .ref (x + 339)), (2, .ref (x + 334)), (1, .ref x), (0, .ref b)] [] := by
  obtain ⟨hzl, v, N, f, nn, v2, N2, f2, n2, co, bf, cv, hc, nx, sz, hs, er, fa, ss, dk, se, po, si, pr, ml, ml2, mo, lg, dg, hW, hP⟩ := hI
  exact lo_decisionCount hl X hX hbl hLx hM hk hn hx hzl hW hP i0 i1 kk
theorem lt_questionTotal (hl : l.stackTraces = false) (X : CF p m cd code 9 s args RL) (hX : va_X b Lx xs s s.heap) (hbl : b < s.heap.size) (hLx : Lx ≤ 2560) (hM : MS E [] s H lo) (hk : kq + 60 ≤ 603072) (hn : nq + 4000 ≤ 7211113) (hx : s.heap.size ≤ x) (hI : LawI E x H) (i0 : 0 ≤ i) (i1 : i + 5 ≤ (Lx : Int)) (kk : ∀ (H1 : Heap) (lo1 : List Loc), MS E [] s H1 lo1 → LawI E x H1 → V p l e room_1 s m args below meth cd Q 9 H1 lo1 (kq + 60) (nq + 4000) 3555 [(5, .int (zI i)), (4, .ref (x + 340)), (3, .ref (x + 339)), (2, .ref (x + 334)), (1, .ref x), (0, .ref b)] []) : V p l e room_1 s m args below meth cd Q 9 H lo kq nq 2875 [(5, .int (zI i)), (4, .ref (x + 340)), (3, .ref (x + 339)), (2, .ref (x + 334)), (1, .ref x), (0, .ref b)] [] := by
  obtain ⟨hzl, v, N, f, nn, v2, N2, f2, n2, co, bf, cv, hc, nx, sz, hs, er, fa, ss, dk, se, po, si, pr, ml, ml2, mo, lg, dg, hW, hP⟩ := hI
  exact lo_questionTotal hl X hX hbl hLx hM hk hn hx hzl hW hP i0 i1 kk
theorem lt_docketLength (hl : l.stackTraces = false) (X : CF p m cd code 9 s args RL) (hX : va_X b Lx xs s s.heap) (hbl : b < s.heap.size) (hLx : Lx ≤ 2560) (hM : MS E [] s H lo) (hk : kq + 60 ≤ 603072) (hn : nq + 4000 ≤ 7211113) (hx : s.heap.size ≤ x) (hI : LawI E x H) (i0 : 0 ≤ i) (i1 : i + 5 ≤ (Lx : Int)) (kk : ∀ (H1 : Heap) (lo1 : List Loc), MS E [] s H1 lo1 → LawI E x H1 → V p l e room_1 s m args below meth cd Q 9 H1 lo1 (kq + 60) (nq + 4000) 3555 [(5, .int (zI i)), (4, .ref (x + 340)), (3, .ref (x + 339)), (2, .ref (x + 334)), (1, .ref x), (0, .ref b)] []) : V p l e room_1 s m args below meth cd Q 9 H lo kq nq 2711 [(5, .int (zI i)), (4, .ref (x + 340)), (3, .ref (x + 339)), (2, .ref (x + 334)), (1, .ref x), (0, .ref b)] [] := by
  obtain ⟨hzl, v, N, f, nn, v2, N2, f2, n2, co, bf, cv, hc, nx, sz, hs, er, fa, ss, dk, se, po, si, pr, ml, ml2, mo, lg, dg, hW, hP⟩ := hI
  exact lo_docketLength hl X hX hbl hLx hM hk hn hx hzl hW hP i0 i1 kk
theorem lt_undoableCount (hl : l.stackTraces = false) (X : CF p m cd code 9 s args RL) (hX : va_X b Lx xs s s.heap) (hbl : b < s.heap.size) (hLx : Lx ≤ 2560) (hM : MS E [] s H lo) (hk : kq + 60 ≤ 603072) (hn : nq + 4000 ≤ 7211113) (hx : s.heap.size ≤ x) (hI : LawI E x H) (i0 : 0 ≤ i) (i1 : i + 5 ≤ (Lx : Int)) (kk : ∀ (H1 : Heap) (lo1 : List Loc), MS E [] s H1 lo1 → LawI E x H1 → V p l e room_1 s m args below meth cd Q 9 H1 lo1 (kq + 60) (nq + 4000) 3555 [(5, .int (zI i)), (4, .ref (x + 340)), (3, .ref (x + 339)), (2, .ref (x + 334)), (1, .ref x), (0, .ref b)] []) : V p l e room_1 s m args below meth cd Q 9 H lo kq nq 3441 [(5, .int (zI i)), (4, .ref (x + 340)), (3, .ref (x + 339)), (2, .ref (x + 334)), (1, .ref x), (0, .ref b)] [] := by
  obtain ⟨hzl, v, N, f, nn, v2, N2, f2, n2, co, bf, cv, hc, nx, sz, hs, er, fa, ss, dk, se, po, si, pr, ml, ml2, mo, lg, dg, hW, hP⟩ := hI
  exact lo_undoableCount hl X hX hbl hLx hM hk hn hx hzl hW hP i0 i1 kk
theorem lt_docketPosition (hl : l.stackTraces = false) (X : CF p m cd code 9 s args RL) (hX : va_X b Lx xs s s.heap) (hbl : b < s.heap.size) (hLx : Lx ≤ 2560) (hM : MS E [] s H lo) (hk : kq + 60 ≤ 603072) (hn : nq + 4000 ≤ 7211113) (hx : s.heap.size ≤ x) (hI : LawI E x H) (i0 : 0 ≤ i) (i1 : i + 5 ≤ (Lx : Int)) (kk : ∀ (H1 : Heap) (lo1 : List Loc), MS E [] s H1 lo1 → LawI E x H1 → V p l e room_1 s m args below meth cd Q 9 H1 lo1 (kq + 60) (nq + 4000) 3555 [(5, .int (zI i)), (4, .ref (x + 340)), (3, .ref (x + 339)), (2, .ref (x + 334)), (1, .ref x), (0, .ref b)] []) : V p l e room_1 s m args below meth cd Q 9 H lo kq nq 2780 [(5, .int (zI i)), (4, .ref (x + 340)), (3, .ref (x + 339)), (2, .ref (x + 334)), (1, .ref x), (0, .ref b)] [] := by
  obtain ⟨hzl, v, N, f, nn, v2, N2, f2, n2, co, bf, cv, hc, nx, sz, hs, er, fa, ss, dk, se, po, si, pr, ml, ml2, mo, lg, dg, hW, hP⟩ := hI
  obtain ⟨a1, ha1⟩ : ∃ a, (xs (i + 1).toNat).toInt = a := ⟨_, rfl⟩
  have ga1 : Rg a1 := by rw [← ha1]; exact rg_t _
  by_cases q0 : 0 ≤ a1 ∧ a1 < co 0 0
  · skip
    by_cases q1 : co 3 a1 = 0
    · skip
      exact lo_docketPosition hl X hX hbl hLx hM hk hn hx hzl hW hP i0 i1 ha1 ga1 q0 q1 kk
    · exact lo_docketPosition_2 hl X hX hbl hLx hM hk hn hx hzl hW hP i0 i1 ha1 ga1 q0 q1 kk
  · exact lo_docketPosition_1 hl X hX hbl hLx hM hk hn hx hzl hW hP i0 i1 ha1 ga1 q0 kk
theorem lt_docketAt (hl : l.stackTraces = false) (X : CF p m cd code 9 s args RL) (hX : va_X b Lx xs s s.heap) (hbl : b < s.heap.size) (hLx : Lx ≤ 2560) (hM : MS E [] s H lo) (hk : kq + 60 ≤ 603072) (hn : nq + 4000 ≤ 7211113) (hx : s.heap.size ≤ x) (hI : LawI E x H) (i0 : 0 ≤ i) (i1 : i + 5 ≤ (Lx : Int)) (kk : ∀ (H1 : Heap) (lo1 : List Loc), MS E [] s H1 lo1 → LawI E x H1 → V p l e room_1 s m args below meth cd Q 9 H1 lo1 (kq + 60) (nq + 4000) 3555 [(5, .int (zI i)), (4, .ref (x + 340)), (3, .ref (x + 339)), (2, .ref (x + 334)), (1, .ref x), (0, .ref b)] []) : V p l e room_1 s m args below meth cd Q 9 H lo kq nq 2724 [(5, .int (zI i)), (4, .ref (x + 340)), (3, .ref (x + 339)), (2, .ref (x + 334)), (1, .ref x), (0, .ref b)] [] := by
  obtain ⟨hzl, v, N, f, nn, v2, N2, f2, n2, co, bf, cv, hc, nx, sz, hs, er, fa, ss, dk, se, po, si, pr, ml, ml2, mo, lg, dg, hW, hP⟩ := hI
  obtain ⟨a1, ha1⟩ : ∃ a, (xs (i + 1).toNat).toInt = a := ⟨_, rfl⟩
  have ga1 : Rg a1 := by rw [← ha1]; exact rg_t _
  by_cases q0 : 0 ≤ a1 ∧ a1 < (dkM co (co 0 0).toNat : Int)
  · skip
    exact lo_docketAt hl X hX hbl hLx hM hk hn hx hzl hW hP i0 i1 ha1 ga1 q0 kk
  · exact lo_docketAt_1 hl X hX hbl hLx hM hk hn hx hzl hW hP i0 i1 ha1 ga1 q0 kk
theorem lt_nextToDecide (hl : l.stackTraces = false) (X : CF p m cd code 9 s args RL) (hX : va_X b Lx xs s s.heap) (hbl : b < s.heap.size) (hLx : Lx ≤ 2560) (hM : MS E [] s H lo) (hk : kq + 60 ≤ 603072) (hn : nq + 4000 ≤ 7211113) (hx : s.heap.size ≤ x) (hI : LawI E x H) (i0 : 0 ≤ i) (i1 : i + 5 ≤ (Lx : Int)) (kk : ∀ (H1 : Heap) (lo1 : List Loc), MS E [] s H1 lo1 → LawI E x H1 → V p l e room_1 s m args below meth cd Q 9 H1 lo1 (kq + 60) (nq + 4000) 3555 [(5, .int (zI i)), (4, .ref (x + 340)), (3, .ref (x + 339)), (2, .ref (x + 334)), (1, .ref x), (0, .ref b)] []) : V p l e room_1 s m args below meth cd Q 9 H lo kq nq 2250 [(5, .int (zI i)), (4, .ref (x + 340)), (3, .ref (x + 339)), (2, .ref (x + 334)), (1, .ref x), (0, .ref b)] [] := by
  obtain ⟨hzl, v, N, f, nn, v2, N2, f2, n2, co, bf, cv, hc, nx, sz, hs, er, fa, ss, dk, se, po, si, pr, ml, ml2, mo, lg, dg, hW, hP⟩ := hI
  by_cases q0 : 0 ≤ fhC co (dkG co (dk 1) (co 0 0).toNat) (dkM co (co 0 0).toNat)
  · skip
    exact lo_nextToDecide hl X hX hbl hLx hM hk hn hx hzl hW hP i0 i1 q0 kk
  · exact lo_nextToDecide_1 hl X hX hbl hLx hM hk hn hx hzl hW hP i0 i1 q0 kk
theorem lt_areConnectedBySearch (hl : l.stackTraces = false) (X : CF p m cd code 9 s args RL) (hX : va_X b Lx xs s s.heap) (hbl : b < s.heap.size) (hLx : Lx ≤ 2560) (hM : MS E [] s H lo) (hk : kq + 60 ≤ 603072) (hn : nq + 4000 ≤ 7211113) (hx : s.heap.size ≤ x) (hI : LawI E x H) (i0 : 0 ≤ i) (i1 : i + 5 ≤ (Lx : Int)) (kk : ∀ (H1 : Heap) (lo1 : List Loc), MS E [] s H1 lo1 → LawI E x H1 → V p l e room_1 s m args below meth cd Q 9 H1 lo1 (kq + 60) (nq + 4000) 3555 [(5, .int (zI i)), (4, .ref (x + 340)), (3, .ref (x + 339)), (2, .ref (x + 334)), (1, .ref x), (0, .ref b)] []) : V p l e room_1 s m args below meth cd Q 9 H lo kq nq 2050 [(5, .int (zI i)), (4, .ref (x + 340)), (3, .ref (x + 339)), (2, .ref (x + 334)), (1, .ref x), (0, .ref b)] [] := by
  obtain ⟨hzl, v, N, f, nn, v2, N2, f2, n2, co, bf, cv, hc, nx, sz, hs, er, fa, ss, dk, se, po, si, pr, ml, ml2, mo, lg, dg, hW, hP⟩ := hI
  obtain ⟨a1, ha1⟩ : ∃ a, (xs (i + 1).toNat).toInt = a := ⟨_, rfl⟩
  have ga1 : Rg a1 := by rw [← ha1]; exact rg_t _
  obtain ⟨a2, ha2⟩ : ∃ a, (xs (i + 2).toNat).toInt = a := ⟨_, rfl⟩
  have ga2 : Rg a2 := by rw [← ha2]; exact rg_t _
  by_cases q0 : 0 ≤ a1 ∧ a1 < co 0 1
  · skip
    by_cases q1 : 0 ≤ a2 ∧ a2 < co 0 1
    · skip
      exact lo_areConnectedBySearch hl X hX hbl hLx hM hk hn hx hzl hW hP i0 i1 ha1 ga1 ha2 ga2 q0 q1 kk
    · exact lo_areConnectedBySearch_2 hl X hX hbl hLx hM hk hn hx hzl hW hP i0 i1 ha1 ga1 ha2 ga2 q0 q1 kk
  · exact lo_areConnectedBySearch_1 hl X hX hbl hLx hM hk hn hx hzl hW hP i0 i1 ha1 ga1 ha2 ga2 q0 kk
theorem lt_isConsistent (hl : l.stackTraces = false) (X : CF p m cd code 9 s args RL) (hX : va_X b Lx xs s s.heap) (hbl : b < s.heap.size) (hLx : Lx ≤ 2560) (hM : MS E [] s H lo) (hk : kq + 60 ≤ 603072) (hn : nq + 4000 ≤ 7211113) (hx : s.heap.size ≤ x) (hI : LawI E x H) (i0 : 0 ≤ i) (i1 : i + 5 ≤ (Lx : Int)) (kk : ∀ (H1 : Heap) (lo1 : List Loc), MS E [] s H1 lo1 → LawI E x H1 → V p l e room_1 s m args below meth cd Q 9 H1 lo1 (kq + 60) (nq + 4000) 3555 [(5, .int (zI i)), (4, .ref (x + 340)), (3, .ref (x + 339)), (2, .ref (x + 334)), (1, .ref x), (0, .ref b)] []) : V p l e room_1 s m args below meth cd Q 9 H lo kq nq 3019 [(5, .int (zI i)), (4, .ref (x + 340)), (3, .ref (x + 339)), (2, .ref (x + 334)), (1, .ref x), (0, .ref b)] [] := by
  obtain ⟨hzl, v, N, f, nn, v2, N2, f2, n2, co, bf, cv, hc, nx, sz, hs, er, fa, ss, dk, se, po, si, pr, ml, ml2, mo, lg, dg, hW, hP⟩ := hI
  exact lo_isConsistent hl X hX hbl hLx hM hk hn hx hzl hW hP i0 i1 kk
theorem lt_errorPosition (hl : l.stackTraces = false) (X : CF p m cd code 9 s args RL) (hX : va_X b Lx xs s s.heap) (hbl : b < s.heap.size) (hLx : Lx ≤ 2560) (hM : MS E [] s H lo) (hk : kq + 60 ≤ 603072) (hn : nq + 4000 ≤ 7211113) (hx : s.heap.size ≤ x) (hI : LawI E x H) (i0 : 0 ≤ i) (i1 : i + 5 ≤ (Lx : Int)) (kk : ∀ (H1 : Heap) (lo1 : List Loc), MS E [] s H1 lo1 → LawI E x H1 → V p l e room_1 s m args below meth cd Q 9 H1 lo1 (kq + 60) (nq + 4000) 3555 [(5, .int (zI i)), (4, .ref (x + 340)), (3, .ref (x + 339)), (2, .ref (x + 334)), (1, .ref x), (0, .ref b)] []) : V p l e room_1 s m args below meth cd Q 9 H lo kq nq 3302 [(5, .int (zI i)), (4, .ref (x + 340)), (3, .ref (x + 339)), (2, .ref (x + 334)), (1, .ref x), (0, .ref b)] [] := by
  obtain ⟨hzl, v, N, f, nn, v2, N2, f2, n2, co, bf, cv, hc, nx, sz, hs, er, fa, ss, dk, se, po, si, pr, ml, ml2, mo, lg, dg, hW, hP⟩ := hI
  by_cases q0 : ¬ er = -1
  · skip
    exact lo_errorPosition hl X hX hbl hLx hM hk hn hx hzl hW hP i0 i1 q0 kk
  · exact lo_errorPosition_1 hl X hX hbl hLx hM hk hn hx hzl hW hP i0 i1 q0 kk
theorem lt_failedCommand (hl : l.stackTraces = false) (X : CF p m cd code 9 s args RL) (hX : va_X b Lx xs s s.heap) (hbl : b < s.heap.size) (hLx : Lx ≤ 2560) (hM : MS E [] s H lo) (hk : kq + 60 ≤ 603072) (hn : nq + 4000 ≤ 7211113) (hx : s.heap.size ≤ x) (hI : LawI E x H) (i0 : 0 ≤ i) (i1 : i + 5 ≤ (Lx : Int)) (kk : ∀ (H1 : Heap) (lo1 : List Loc), MS E [] s H1 lo1 → LawI E x H1 → V p l e room_1 s m args below meth cd Q 9 H1 lo1 (kq + 60) (nq + 4000) 3555 [(5, .int (zI i)), (4, .ref (x + 340)), (3, .ref (x + 339)), (2, .ref (x + 334)), (1, .ref x), (0, .ref b)] []) : V p l e room_1 s m args below meth cd Q 9 H lo kq nq 3346 [(5, .int (zI i)), (4, .ref (x + 340)), (3, .ref (x + 339)), (2, .ref (x + 334)), (1, .ref x), (0, .ref b)] [] := by
  obtain ⟨hzl, v, N, f, nn, v2, N2, f2, n2, co, bf, cv, hc, nx, sz, hs, er, fa, ss, dk, se, po, si, pr, ml, ml2, mo, lg, dg, hW, hP⟩ := hI
  by_cases q0 : ¬ fa = -1
  · skip
    exact lo_failedCommand hl X hX hbl hLx hM hk hn hx hzl hW hP i0 i1 q0 kk
  · exact lo_failedCommand_1 hl X hX hbl hLx hM hk hn hx hzl hW hP i0 i1 q0 kk
theorem lt_isFailureOfState (hl : l.stackTraces = false) (X : CF p m cd code 9 s args RL) (hX : va_X b Lx xs s s.heap) (hbl : b < s.heap.size) (hLx : Lx ≤ 2560) (hM : MS E [] s H lo) (hk : kq + 60 ≤ 603072) (hn : nq + 4000 ≤ 7211113) (hx : s.heap.size ≤ x) (hI : LawI E x H) (i0 : 0 ≤ i) (i1 : i + 5 ≤ (Lx : Int)) (kk : ∀ (H1 : Heap) (lo1 : List Loc), MS E [] s H1 lo1 → LawI E x H1 → V p l e room_1 s m args below meth cd Q 9 H1 lo1 (kq + 60) (nq + 4000) 3555 [(5, .int (zI i)), (4, .ref (x + 340)), (3, .ref (x + 339)), (2, .ref (x + 334)), (1, .ref x), (0, .ref b)] []) : V p l e room_1 s m args below meth cd Q 9 H lo kq nq 3390 [(5, .int (zI i)), (4, .ref (x + 340)), (3, .ref (x + 339)), (2, .ref (x + 334)), (1, .ref x), (0, .ref b)] [] := by
  obtain ⟨hzl, v, N, f, nn, v2, N2, f2, n2, co, bf, cv, hc, nx, sz, hs, er, fa, ss, dk, se, po, si, pr, ml, ml2, mo, lg, dg, hW, hP⟩ := hI
  by_cases q0 : ¬ fa = -1
  · skip
    exact lo_isFailureOfState hl X hX hbl hLx hM hk hn hx hzl hW hP i0 i1 q0 kk
  · exact lo_isFailureOfState_1 hl X hX hbl hLx hM hk hn hx hzl hW hP i0 i1 q0 kk
theorem lt_charge (hl : l.stackTraces = false) (X : CF p m cd code 9 s args RL) (hX : va_X b Lx xs s s.heap) (hbl : b < s.heap.size) (hLx : Lx ≤ 2560) (hM : MS E [] s H lo) (hk : kq + 60 ≤ 603072) (hn : nq + 4000 ≤ 7211113) (hx : s.heap.size ≤ x) (hI : LawI E x H) (i0 : 0 ≤ i) (i1 : i + 5 ≤ (Lx : Int)) (kk : ∀ (H1 : Heap) (lo1 : List Loc), MS E [] s H1 lo1 → LawI E x H1 → V p l e room_1 s m args below meth cd Q 9 H1 lo1 (kq + 60) (nq + 4000) 3555 [(5, .int (zI i)), (4, .ref (x + 340)), (3, .ref (x + 339)), (2, .ref (x + 334)), (1, .ref x), (0, .ref b)] []) : V p l e room_1 s m args below meth cd Q 9 H lo kq nq 312 [(5, .int (zI i)), (4, .ref (x + 340)), (3, .ref (x + 339)), (2, .ref (x + 334)), (1, .ref x), (0, .ref b)] [] := by
  obtain ⟨hzl, v, N, f, nn, v2, N2, f2, n2, co, bf, cv, hc, nx, sz, hs, er, fa, ss, dk, se, po, si, pr, ml, ml2, mo, lg, dg, hW, hP⟩ := hI
  obtain ⟨a1, ha1⟩ : ∃ a, (xs (i + 1).toNat).toInt = a := ⟨_, rfl⟩
  have ga1 : Rg a1 := by rw [← ha1]; exact rg_t _
  obtain ⟨a2, ha2⟩ : ∃ a, (xs (i + 2).toNat).toInt = a := ⟨_, rfl⟩
  have ga2 : Rg a2 := by rw [← ha2]; exact rg_t _
  have hfb := flC_b co 0 a1 a2 0
  rcases (show flC co 0 a1 a2 0 = 0 ∨ flC co 0 a1 a2 0 = 1 ∨ flC co 0 a1 a2 0 = 2 ∨ flC co 0 a1 a2 0 = 3 ∨ flC co 0 a1 a2 0 = 4 from by omega) with q0 | q0 | q0 | q0 | q0
  · exact lo_charge hl X hX hbl hLx hM hk hn hx hzl hW hP i0 i1 ha1 ga1 ha2 ga2 q0 kk
  · exact absurd q0 fl_0_1
  · exact lo_charge_1 hl X hX hbl hLx hM hk hn hx hzl hW hP i0 i1 ha1 ga1 ha2 ga2 q0 kk
  · exact absurd q0 fl_0_3
  · exact lo_charge_2 hl X hX hbl hLx hM hk hn hx hzl hW hP i0 i1 ha1 ga1 ha2 ga2 q0 kk
theorem lt_addWitness (hl : l.stackTraces = false) (X : CF p m cd code 9 s args RL) (hX : va_X b Lx xs s s.heap) (hbl : b < s.heap.size) (hLx : Lx ≤ 2560) (hM : MS E [] s H lo) (hk : kq + 60 ≤ 603072) (hn : nq + 4000 ≤ 7211113) (hx : s.heap.size ≤ x) (hI : LawI E x H) (i0 : 0 ≤ i) (i1 : i + 5 ≤ (Lx : Int)) (kk : ∀ (H1 : Heap) (lo1 : List Loc), MS E [] s H1 lo1 → LawI E x H1 → V p l e room_1 s m args below meth cd Q 9 H1 lo1 (kq + 60) (nq + 4000) 3555 [(5, .int (zI i)), (4, .ref (x + 340)), (3, .ref (x + 339)), (2, .ref (x + 334)), (1, .ref x), (0, .ref b)] []) : V p l e room_1 s m args below meth cd Q 9 H lo kq nq 380 [(5, .int (zI i)), (4, .ref (x + 340)), (3, .ref (x + 339)), (2, .ref (x + 334)), (1, .ref x), (0, .ref b)] [] := by
  obtain ⟨hzl, v, N, f, nn, v2, N2, f2, n2, co, bf, cv, hc, nx, sz, hs, er, fa, ss, dk, se, po, si, pr, ml, ml2, mo, lg, dg, hW, hP⟩ := hI
  obtain ⟨a1, ha1⟩ : ∃ a, (xs (i + 1).toNat).toInt = a := ⟨_, rfl⟩
  have ga1 : Rg a1 := by rw [← ha1]; exact rg_t _
  have hfb := flC_b co 1 a1 0 0
  rcases (show flC co 1 a1 0 0 = 0 ∨ flC co 1 a1 0 0 = 1 ∨ flC co 1 a1 0 0 = 2 ∨ flC co 1 a1 0 0 = 3 ∨ flC co 1 a1 0 0 = 4 from by omega) with q0 | q0 | q0 | q0 | q0
  · exact lo_addWitness hl X hX hbl hLx hM hk hn hx hzl hW hP i0 i1 ha1 ga1 q0 kk
  · exact absurd q0 fl_1_1
  · exact lo_addWitness_1 hl X hX hbl hLx hM hk hn hx hzl hW hP i0 i1 ha1 ga1 q0 kk
  · exact absurd q0 fl_1_3
  · exact lo_addWitness_2 hl X hX hbl hLx hM hk hn hx hzl hW hP i0 i1 ha1 ga1 q0 kk
theorem lt_decide (hl : l.stackTraces = false) (X : CF p m cd code 9 s args RL) (hX : va_X b Lx xs s s.heap) (hbl : b < s.heap.size) (hLx : Lx ≤ 2560) (hM : MS E [] s H lo) (hk : kq + 60 ≤ 603072) (hn : nq + 4000 ≤ 7211113) (hx : s.heap.size ≤ x) (hI : LawI E x H) (i0 : 0 ≤ i) (i1 : i + 5 ≤ (Lx : Int)) (kk : ∀ (H1 : Heap) (lo1 : List Loc), MS E [] s H1 lo1 → LawI E x H1 → V p l e room_1 s m args below meth cd Q 9 H1 lo1 (kq + 60) (nq + 4000) 3555 [(5, .int (zI i)), (4, .ref (x + 340)), (3, .ref (x + 339)), (2, .ref (x + 334)), (1, .ref x), (0, .ref b)] []) : V p l e room_1 s m args below meth cd Q 9 H lo kq nq 640 [(5, .int (zI i)), (4, .ref (x + 340)), (3, .ref (x + 339)), (2, .ref (x + 334)), (1, .ref x), (0, .ref b)] [] := by
  obtain ⟨hzl, v, N, f, nn, v2, N2, f2, n2, co, bf, cv, hc, nx, sz, hs, er, fa, ss, dk, se, po, si, pr, ml, ml2, mo, lg, dg, hW, hP⟩ := hI
  obtain ⟨a1, ha1⟩ : ∃ a, (xs (i + 1).toNat).toInt = a := ⟨_, rfl⟩
  have ga1 : Rg a1 := by rw [← ha1]; exact rg_t _
  have hfb := flC_b co 4 a1 0 0
  rcases (show flC co 4 a1 0 0 = 0 ∨ flC co 4 a1 0 0 = 1 ∨ flC co 4 a1 0 0 = 2 ∨ flC co 4 a1 0 0 = 3 ∨ flC co 4 a1 0 0 = 4 from by omega) with q0 | q0 | q0 | q0 | q0
  · exact lo_decide hl X hX hbl hLx hM hk hn hx hzl hW hP i0 i1 ha1 ga1 q0 kk
  · exact lo_decide_1 hl X hX hbl hLx hM hk hn hx hzl hW hP i0 i1 ha1 ga1 q0 kk
  · exact absurd q0 fl_4_2
  · exact absurd q0 fl_4_3
  · exact lo_decide_2 hl X hX hbl hLx hM hk hn hx hzl hW hP i0 i1 ha1 ga1 q0 kk
theorem lt_appeal (hl : l.stackTraces = false) (X : CF p m cd code 9 s args RL) (hX : va_X b Lx xs s s.heap) (hbl : b < s.heap.size) (hLx : Lx ≤ 2560) (hM : MS E [] s H lo) (hk : kq + 60 ≤ 603072) (hn : nq + 4000 ≤ 7211113) (hx : s.heap.size ≤ x) (hI : LawI E x H) (i0 : 0 ≤ i) (i1 : i + 5 ≤ (Lx : Int)) (kk : ∀ (H1 : Heap) (lo1 : List Loc), MS E [] s H1 lo1 → LawI E x H1 → V p l e room_1 s m args below meth cd Q 9 H1 lo1 (kq + 60) (nq + 4000) 3555 [(5, .int (zI i)), (4, .ref (x + 340)), (3, .ref (x + 339)), (2, .ref (x + 334)), (1, .ref x), (0, .ref b)] []) : V p l e room_1 s m args below meth cd Q 9 H lo kq nq 703 [(5, .int (zI i)), (4, .ref (x + 340)), (3, .ref (x + 339)), (2, .ref (x + 334)), (1, .ref x), (0, .ref b)] [] := by
  obtain ⟨hzl, v, N, f, nn, v2, N2, f2, n2, co, bf, cv, hc, nx, sz, hs, er, fa, ss, dk, se, po, si, pr, ml, ml2, mo, lg, dg, hW, hP⟩ := hI
  obtain ⟨a1, ha1⟩ : ∃ a, (xs (i + 1).toNat).toInt = a := ⟨_, rfl⟩
  have ga1 : Rg a1 := by rw [← ha1]; exact rg_t _
  have hfb := flC_b co 5 a1 0 0
  rcases (show flC co 5 a1 0 0 = 0 ∨ flC co 5 a1 0 0 = 1 ∨ flC co 5 a1 0 0 = 2 ∨ flC co 5 a1 0 0 = 3 ∨ flC co 5 a1 0 0 = 4 from by omega) with q0 | q0 | q0 | q0 | q0
  · exact lo_appeal hl X hX hbl hLx hM hk hn hx hzl hW hP i0 i1 ha1 ga1 q0 kk
  · exact lo_appeal_1 hl X hX hbl hLx hM hk hn hx hzl hW hP i0 i1 ha1 ga1 q0 kk
  · exact absurd q0 fl_5_2
  · exact absurd q0 fl_5_3
  · exact lo_appeal_2 hl X hX hbl hLx hM hk hn hx hzl hW hP i0 i1 ha1 ga1 q0 kk
theorem lt_close (hl : l.stackTraces = false) (X : CF p m cd code 9 s args RL) (hX : va_X b Lx xs s s.heap) (hbl : b < s.heap.size) (hLx : Lx ≤ 2560) (hM : MS E [] s H lo) (hk : kq + 60 ≤ 603072) (hn : nq + 4000 ≤ 7211113) (hx : s.heap.size ≤ x) (hI : LawI E x H) (i0 : 0 ≤ i) (i1 : i + 5 ≤ (Lx : Int)) (kk : ∀ (H1 : Heap) (lo1 : List Loc), MS E [] s H1 lo1 → LawI E x H1 → V p l e room_1 s m args below meth cd Q 9 H1 lo1 (kq + 60) (nq + 4000) 3555 [(5, .int (zI i)), (4, .ref (x + 340)), (3, .ref (x + 339)), (2, .ref (x + 334)), (1, .ref x), (0, .ref b)] []) : V p l e room_1 s m args below meth cd Q 9 H lo kq nq 759 [(5, .int (zI i)), (4, .ref (x + 340)), (3, .ref (x + 339)), (2, .ref (x + 334)), (1, .ref x), (0, .ref b)] [] := by
  obtain ⟨hzl, v, N, f, nn, v2, N2, f2, n2, co, bf, cv, hc, nx, sz, hs, er, fa, ss, dk, se, po, si, pr, ml, ml2, mo, lg, dg, hW, hP⟩ := hI
  obtain ⟨a1, ha1⟩ : ∃ a, (xs (i + 1).toNat).toInt = a := ⟨_, rfl⟩
  have ga1 : Rg a1 := by rw [← ha1]; exact rg_t _
  have hfb := flC_b co 6 a1 0 0
  rcases (show flC co 6 a1 0 0 = 0 ∨ flC co 6 a1 0 0 = 1 ∨ flC co 6 a1 0 0 = 2 ∨ flC co 6 a1 0 0 = 3 ∨ flC co 6 a1 0 0 = 4 from by omega) with q0 | q0 | q0 | q0 | q0
  · exact lo_close hl X hX hbl hLx hM hk hn hx hzl hW hP i0 i1 ha1 ga1 q0 kk
  · exact lo_close_1 hl X hX hbl hLx hM hk hn hx hzl hW hP i0 i1 ha1 ga1 q0 kk
  · exact absurd q0 fl_6_2
  · exact absurd q0 fl_6_3
  · exact lo_close_2 hl X hX hbl hLx hM hk hn hx hzl hW hP i0 i1 ha1 ga1 q0 kk
theorem lt_testify (hl : l.stackTraces = false) (X : CF p m cd code 9 s args RL) (hX : va_X b Lx xs s s.heap) (hbl : b < s.heap.size) (hLx : Lx ≤ 2560) (hM : MS E [] s H lo) (hk : kq + 60 ≤ 603072) (hn : nq + 4000 ≤ 7211113) (hx : s.heap.size ≤ x) (hI : LawI E x H) (i0 : 0 ≤ i) (i1 : i + 5 ≤ (Lx : Int)) (kk : ∀ (H1 : Heap) (lo1 : List Loc), MS E [] s H1 lo1 → LawI E x H1 → V p l e room_1 s m args below meth cd Q 9 H1 lo1 (kq + 60) (nq + 4000) 3555 [(5, .int (zI i)), (4, .ref (x + 340)), (3, .ref (x + 339)), (2, .ref (x + 334)), (1, .ref x), (0, .ref b)] []) : V p l e room_1 s m args below meth cd Q 9 H lo kq nq 436 [(5, .int (zI i)), (4, .ref (x + 340)), (3, .ref (x + 339)), (2, .ref (x + 334)), (1, .ref x), (0, .ref b)] [] := by
  obtain ⟨hzl, v, N, f, nn, v2, N2, f2, n2, co, bf, cv, hc, nx, sz, hs, er, fa, ss, dk, se, po, si, pr, ml, ml2, mo, lg, dg, hW, hP⟩ := hI
  obtain ⟨a1, ha1⟩ : ∃ a, (xs (i + 1).toNat).toInt = a := ⟨_, rfl⟩
  have ga1 : Rg a1 := by rw [← ha1]; exact rg_t _
  obtain ⟨a2, ha2⟩ : ∃ a, (xs (i + 2).toNat).toInt = a := ⟨_, rfl⟩
  have ga2 : Rg a2 := by rw [← ha2]; exact rg_t _
  obtain ⟨a3, ha3⟩ : ∃ a, (xs (i + 3).toNat).toInt = a := ⟨_, rfl⟩
  have ga3 : Rg a3 := by rw [← ha3]; exact rg_t _
  obtain ⟨a4, ha4⟩ : ∃ a, (xs (i + 4).toNat).toInt = a := ⟨_, rfl⟩
  have ga4 : Rg a4 := by rw [← ha4]; exact rg_t _
  have hfb := flC_b co 2 a1 a2 a4
  rcases (show flC co 2 a1 a2 a4 = 0 ∨ flC co 2 a1 a2 a4 = 1 ∨ flC co 2 a1 a2 a4 = 2 ∨ flC co 2 a1 a2 a4 = 3 ∨ flC co 2 a1 a2 a4 = 4 from by omega) with q0 | q0 | q0 | q0 | q0
  · by_cases q1 : a3 = 0
    · exact lo_testify_f0 hl X hX hbl hLx hM hk hn hx hzl hW hP i0 i1 ha1 ga1 ha2 ga2 ha3 ga3 ha4 ga4 q0 q1 kk
    · exact lo_testify_f1 hl X hX hbl hLx hM hk hn hx hzl hW hP i0 i1 ha1 ga1 ha2 ga2 ha3 ga3 ha4 ga4 q0 q1 kk
  · by_cases q1 : a3 = 0
    · exact lo_testify_f0_1 hl X hX hbl hLx hM hk hn hx hzl hW hP i0 i1 ha1 ga1 ha2 ga2 ha3 ga3 ha4 ga4 q0 q1 kk
    · exact lo_testify_f1_1 hl X hX hbl hLx hM hk hn hx hzl hW hP i0 i1 ha1 ga1 ha2 ga2 ha3 ga3 ha4 ga4 q0 q1 kk
  · by_cases q1 : a3 = 0
    · exact lo_testify_f0_2 hl X hX hbl hLx hM hk hn hx hzl hW hP i0 i1 ha1 ga1 ha2 ga2 ha3 ga3 ha4 ga4 q0 q1 kk
    · exact lo_testify_f1_2 hl X hX hbl hLx hM hk hn hx hzl hW hP i0 i1 ha1 ga1 ha2 ga2 ha3 ga3 ha4 ga4 q0 q1 kk
  · exact absurd q0 fl_2_3
  · by_cases q1 : a3 = 0
    · exact lo_testify_f0_3 hl X hX hbl hLx hM hk hn hx hzl hW hP i0 i1 ha1 ga1 ha2 ga2 ha3 ga3 ha4 ga4 q0 q1 kk
    · exact lo_testify_f1_3 hl X hX hbl hLx hM hk hn hx hzl hW hP i0 i1 ha1 ga1 ha2 ga2 ha3 ga3 ha4 ga4 q0 q1 kk
theorem lt_question (hl : l.stackTraces = false) (X : CF p m cd code 9 s args RL) (hX : va_X b Lx xs s s.heap) (hbl : b < s.heap.size) (hLx : Lx ≤ 2560) (hM : MS E [] s H lo) (hk : kq + 60 ≤ 603072) (hn : nq + 4000 ≤ 7211113) (hx : s.heap.size ≤ x) (hI : LawI E x H) (i0 : 0 ≤ i) (i1 : i + 5 ≤ (Lx : Int)) (kk : ∀ (H1 : Heap) (lo1 : List Loc), MS E [] s H1 lo1 → LawI E x H1 → V p l e room_1 s m args below meth cd Q 9 H1 lo1 (kq + 60) (nq + 4000) 3555 [(5, .int (zI i)), (4, .ref (x + 340)), (3, .ref (x + 339)), (2, .ref (x + 334)), (1, .ref x), (0, .ref b)] []) : V p l e room_1 s m args below meth cd Q 9 H lo kq nq 544 [(5, .int (zI i)), (4, .ref (x + 340)), (3, .ref (x + 339)), (2, .ref (x + 334)), (1, .ref x), (0, .ref b)] [] := by
  obtain ⟨hzl, v, N, f, nn, v2, N2, f2, n2, co, bf, cv, hc, nx, sz, hs, er, fa, ss, dk, se, po, si, pr, ml, ml2, mo, lg, dg, hW, hP⟩ := hI
  obtain ⟨a1, ha1⟩ : ∃ a, (xs (i + 1).toNat).toInt = a := ⟨_, rfl⟩
  have ga1 : Rg a1 := by rw [← ha1]; exact rg_t _
  obtain ⟨a2, ha2⟩ : ∃ a, (xs (i + 2).toNat).toInt = a := ⟨_, rfl⟩
  have ga2 : Rg a2 := by rw [← ha2]; exact rg_t _
  obtain ⟨a3, ha3⟩ : ∃ a, (xs (i + 3).toNat).toInt = a := ⟨_, rfl⟩
  have ga3 : Rg a3 := by rw [← ha3]; exact rg_t _
  have hfb := flC_b co 3 a1 a2 0
  rcases (show flC co 3 a1 a2 0 = 0 ∨ flC co 3 a1 a2 0 = 1 ∨ flC co 3 a1 a2 0 = 2 ∨ flC co 3 a1 a2 0 = 3 ∨ flC co 3 a1 a2 0 = 4 from by omega) with q0 | q0 | q0 | q0 | q0
  · by_cases q1 : a3 = 0
    · exact lo_question_f0 hl X hX hbl hLx hM hk hn hx hzl hW hP i0 i1 ha1 ga1 ha2 ga2 ha3 ga3 q0 q1 kk
    · exact lo_question_f1 hl X hX hbl hLx hM hk hn hx hzl hW hP i0 i1 ha1 ga1 ha2 ga2 ha3 ga3 q0 q1 kk
  · by_cases q1 : a3 = 0
    · exact lo_question_f0_1 hl X hX hbl hLx hM hk hn hx hzl hW hP i0 i1 ha1 ga1 ha2 ga2 ha3 ga3 q0 q1 kk
    · exact lo_question_f1_1 hl X hX hbl hLx hM hk hn hx hzl hW hP i0 i1 ha1 ga1 ha2 ga2 ha3 ga3 q0 q1 kk
  · exact absurd q0 fl_3_2
  · by_cases q1 : a3 = 0
    · exact lo_question_f0_2 hl X hX hbl hLx hM hk hn hx hzl hW hP i0 i1 ha1 ga1 ha2 ga2 ha3 ga3 q0 q1 kk
    · exact lo_question_f1_2 hl X hX hbl hLx hM hk hn hx hzl hW hP i0 i1 ha1 ga1 ha2 ga2 ha3 ga3 q0 q1 kk
  · by_cases q1 : a3 = 0
    · exact lo_question_f0_3 hl X hX hbl hLx hM hk hn hx hzl hW hP i0 i1 ha1 ga1 ha2 ga2 ha3 ga3 q0 q1 kk
    · exact lo_question_f1_3 hl X hX hbl hLx hM hk hn hx hzl hW hP i0 i1 ha1 ga1 ha2 ga2 ha3 ga3 q0 q1 kk
theorem lt_undo (hl : l.stackTraces = false) (X : CF p m cd code 9 s args RL) (hX : va_X b Lx xs s s.heap) (hbl : b < s.heap.size) (hLx : Lx ≤ 2560) (hM : MS E [] s H lo) (hk : kq + 60 ≤ 603072) (hn : nq + 4000 ≤ 7211113) (hx : s.heap.size ≤ x) (hI : LawI E x H) (i0 : 0 ≤ i) (i1 : i + 5 ≤ (Lx : Int)) (kk : ∀ (H1 : Heap) (lo1 : List Loc), MS E [] s H1 lo1 → LawI E x H1 → V p l e room_1 s m args below meth cd Q 9 H1 lo1 (kq + 60) (nq + 4000) 3555 [(5, .int (zI i)), (4, .ref (x + 340)), (3, .ref (x + 339)), (2, .ref (x + 334)), (1, .ref x), (0, .ref b)] []) : V p l e room_1 s m args below meth cd Q 9 H lo kq nq 3454 [(5, .int (zI i)), (4, .ref (x + 340)), (3, .ref (x + 339)), (2, .ref (x + 334)), (1, .ref x), (0, .ref b)] [] := by
  obtain ⟨hzl, v, N, f, nn, v2, N2, f2, n2, co, bf, cv, hc, nx, sz, hs, er, fa, ss, dk, se, po, si, pr, ml, ml2, mo, lg, dg, hW, hP⟩ := hI
  by_cases q0 : ¬ sz = 0
  · skip
    exact lo_undo hl X hX hbl hLx hM hk hn hx hzl hW hP i0 i1 q0 kk
  · exact lo_undo_1 hl X hX hbl hLx hM hk hn hx hzl hW hP i0 i1 q0 kk
theorem lt_restore (hl : l.stackTraces = false) (X : CF p m cd code 9 s args RL) (hX : va_X b Lx xs s s.heap) (hbl : b < s.heap.size) (hLx : Lx ≤ 2560) (hM : MS E [] s H lo) (hk : kq + 60 ≤ 603072) (hn : nq + 4000 ≤ 7211113) (hx : s.heap.size ≤ x) (hI : LawI E x H) (i0 : 0 ≤ i) (i1 : i + 5 ≤ (Lx : Int)) (kk : ∀ (H1 : Heap) (lo1 : List Loc), MS E [] s H1 lo1 → LawI E x H1 → V p l e room_1 s m args below meth cd Q 9 H1 lo1 (kq + 60) (nq + 4000) 3555 [(5, .int (zI i)), (4, .ref (x + 340)), (3, .ref (x + 339)), (2, .ref (x + 334)), (1, .ref x), (0, .ref b)] []) : V p l e room_1 s m args below meth cd Q 9 H lo kq nq 3511 [(5, .int (zI i)), (4, .ref (x + 340)), (3, .ref (x + 339)), (2, .ref (x + 334)), (1, .ref x), (0, .ref b)] [] := by
  obtain ⟨hzl, v, N, f, nn, v2, N2, f2, n2, co, bf, cv, hc, nx, sz, hs, er, fa, ss, dk, se, po, si, pr, ml, ml2, mo, lg, dg, hW, hP⟩ := hI
  by_cases q0 : hs = 1
  · skip
    exact lo_restore hl X hX hbl hLx hM hk hn hx hzl hW hP i0 i1 q0 kk
  · exact lo_restore_1 hl X hX hbl hLx hM hk hn hx hzl hW hP i0 i1 q0 kk
theorem lt_save (hl : l.stackTraces = false) (X : CF p m cd code 9 s args RL) (hX : va_X b Lx xs s s.heap) (hbl : b < s.heap.size) (hLx : Lx ≤ 2560) (hM : MS E [] s H lo) (hk : kq + 60 ≤ 603072) (hn : nq + 4000 ≤ 7211113) (hx : s.heap.size ≤ x) (hI : LawI E x H) (i0 : 0 ≤ i) (i1 : i + 5 ≤ (Lx : Int)) (kk : ∀ (H1 : Heap) (lo1 : List Loc), MS E [] s H1 lo1 → LawI E x H1 → V p l e room_1 s m args below meth cd Q 9 H1 lo1 (kq + 60) (nq + 4000) 3555 [(5, .int (zI i)), (4, .ref (x + 340)), (3, .ref (x + 339)), (2, .ref (x + 334)), (1, .ref x), (0, .ref b)] []) : V p l e room_1 s m args below meth cd Q 9 H lo kq nq 3498 [(5, .int (zI i)), (4, .ref (x + 340)), (3, .ref (x + 339)), (2, .ref (x + 334)), (1, .ref x), (0, .ref b)] [] := by
  obtain ⟨hzl, v, N, f, nn, v2, N2, f2, n2, co, bf, cv, hc, nx, sz, hs, er, fa, ss, dk, se, po, si, pr, ml, ml2, mo, lg, dg, hW, hP⟩ := hI
  exact lo_save hl X hX hbl hLx hM hk hn hx hzl hW hP i0 i1 kk
theorem lt_meanCredibility (hl : l.stackTraces = false) (X : CF p m cd code 9 s args RL) (hX : va_X b Lx xs s s.heap) (hbl : b < s.heap.size) (hLx : Lx ≤ 2560) (hM : MS E [] s H lo) (hk : kq + 60 ≤ 603072) (hn : nq + 4000 ≤ 7211113) (hx : s.heap.size ≤ x) (hI : LawI E x H) (i0 : 0 ≤ i) (i1 : i + 5 ≤ (Lx : Int)) (kk : ∀ (H1 : Heap) (lo1 : List Loc), MS E [] s H1 lo1 → LawI E x H1 → V p l e room_1 s m args below meth cd Q 9 H1 lo1 (kq + 60) (nq + 4000) 3555 [(5, .int (zI i)), (4, .ref (x + 340)), (3, .ref (x + 339)), (2, .ref (x + 334)), (1, .ref x), (0, .ref b)] []) : V p l e room_1 s m args below meth cd Q 9 H lo kq nq 2888 [(5, .int (zI i)), (4, .ref (x + 340)), (3, .ref (x + 339)), (2, .ref (x + 334)), (1, .ref x), (0, .ref b)] [] := by
  obtain ⟨hzl, v, N, f, nn, v2, N2, f2, n2, co, bf, cv, hc, nx, sz, hs, er, fa, ss, dk, se, po, si, pr, ml, ml2, mo, lg, dg, hW, hP⟩ := hI
  by_cases q0 : ¬ co 0 1 = 0
  · skip
    exact lo_meanCredibility hl X hX hbl hLx hM hk hn hx hzl hW hP i0 i1 q0 kk
  · exact lo_meanCredibility_1 hl X hX hbl hLx hM hk hn hx hzl hW hP i0 i1 q0 kk
theorem lt_guiltyShare (hl : l.stackTraces = false) (X : CF p m cd code 9 s args RL) (hX : va_X b Lx xs s s.heap) (hbl : b < s.heap.size) (hLx : Lx ≤ 2560) (hM : MS E [] s H lo) (hk : kq + 60 ≤ 603072) (hn : nq + 4000 ≤ 7211113) (hx : s.heap.size ≤ x) (hI : LawI E x H) (i0 : 0 ≤ i) (i1 : i + 5 ≤ (Lx : Int)) (kk : ∀ (H1 : Heap) (lo1 : List Loc), MS E [] s H1 lo1 → LawI E x H1 → V p l e room_1 s m args below meth cd Q 9 H1 lo1 (kq + 60) (nq + 4000) 3555 [(5, .int (zI i)), (4, .ref (x + 340)), (3, .ref (x + 339)), (2, .ref (x + 334)), (1, .ref x), (0, .ref b)] []) : V p l e room_1 s m args below meth cd Q 9 H lo kq nq 2953 [(5, .int (zI i)), (4, .ref (x + 340)), (3, .ref (x + 339)), (2, .ref (x + 334)), (1, .ref x), (0, .ref b)] [] := by
  obtain ⟨hzl, v, N, f, nn, v2, N2, f2, n2, co, bf, cv, hc, nx, sz, hs, er, fa, ss, dk, se, po, si, pr, ml, ml2, mo, lg, dg, hW, hP⟩ := hI
  by_cases q0 : ¬ sumZ (fun j => bz (co 3 j = 1)) (co 0 0).toNat + sumZ (fun j => bz (co 3 j = 2)) (co 0 0).toNat = 0
  · skip
    exact lo_guiltyShare hl X hX hbl hLx hM hk hn hx hzl hW hP i0 i1 q0 kk
  · exact lo_guiltyShare_1 hl X hX hbl hLx hM hk hn hx hzl hW hP i0 i1 q0 kk
theorem lt_formatCase (hl : l.stackTraces = false) (X : CF p m cd code 9 s args RL) (hX : va_X b Lx xs s s.heap) (hbl : b < s.heap.size) (hLx : Lx ≤ 2560) (hM : MS E [] s H lo) (hk : kq + 60 ≤ 603072) (hn : nq + 4000 ≤ 7211113) (hx : s.heap.size ≤ x) (hI : LawI E x H) (i0 : 0 ≤ i) (i1 : i + 5 ≤ (Lx : Int)) (kk : ∀ (H1 : Heap) (lo1 : List Loc), MS E [] s H1 lo1 → LawI E x H1 → V p l e room_1 s m args below meth cd Q 9 H1 lo1 (kq + 60) (nq + 4000) 3555 [(5, .int (zI i)), (4, .ref (x + 340)), (3, .ref (x + 339)), (2, .ref (x + 334)), (1, .ref x), (0, .ref b)] []) : V p l e room_1 s m args below meth cd Q 9 H lo kq nq 3032 [(5, .int (zI i)), (4, .ref (x + 340)), (3, .ref (x + 339)), (2, .ref (x + 334)), (1, .ref x), (0, .ref b)] [] := by
  obtain ⟨hzl, v, N, f, nn, v2, N2, f2, n2, co, bf, cv, hc, nx, sz, hs, er, fa, ss, dk, se, po, si, pr, ml, ml2, mo, lg, dg, hW, hP⟩ := hI
  obtain ⟨a1, ha1⟩ : ∃ a, (xs (i + 1).toNat).toInt = a := ⟨_, rfl⟩
  have ga1 : Rg a1 := by rw [← ha1]; exact rg_t _
  by_cases q0 : 0 ≤ a1 ∧ a1 < co 0 0
  · skip
    exact lo_formatCase hl X hX hbl hLx hM hk hn hx hzl hW hP i0 i1 ha1 ga1 q0 kk
  · exact lo_formatCase_1 hl X hX hbl hLx hM hk hn hx hzl hW hP i0 i1 ha1 ga1 q0 kk
theorem lt_formatWitness (hl : l.stackTraces = false) (X : CF p m cd code 9 s args RL) (hX : va_X b Lx xs s s.heap) (hbl : b < s.heap.size) (hLx : Lx ≤ 2560) (hM : MS E [] s H lo) (hk : kq + 60 ≤ 603072) (hn : nq + 4000 ≤ 7211113) (hx : s.heap.size ≤ x) (hI : LawI E x H) (i0 : 0 ≤ i) (i1 : i + 5 ≤ (Lx : Int)) (kk : ∀ (H1 : Heap) (lo1 : List Loc), MS E [] s H1 lo1 → LawI E x H1 → V p l e room_1 s m args below meth cd Q 9 H1 lo1 (kq + 60) (nq + 4000) 3555 [(5, .int (zI i)), (4, .ref (x + 340)), (3, .ref (x + 339)), (2, .ref (x + 334)), (1, .ref x), (0, .ref b)] []) : V p l e room_1 s m args below meth cd Q 9 H lo kq nq 3088 [(5, .int (zI i)), (4, .ref (x + 340)), (3, .ref (x + 339)), (2, .ref (x + 334)), (1, .ref x), (0, .ref b)] [] := by
  obtain ⟨hzl, v, N, f, nn, v2, N2, f2, n2, co, bf, cv, hc, nx, sz, hs, er, fa, ss, dk, se, po, si, pr, ml, ml2, mo, lg, dg, hW, hP⟩ := hI
  obtain ⟨a1, ha1⟩ : ∃ a, (xs (i + 1).toNat).toInt = a := ⟨_, rfl⟩
  have ga1 : Rg a1 := by rw [← ha1]; exact rg_t _
  by_cases q0 : 0 ≤ a1 ∧ a1 < co 0 1
  · skip
    exact lo_formatWitness hl X hX hbl hLx hM hk hn hx hzl hW hP i0 i1 ha1 ga1 q0 kk
  · exact lo_formatWitness_1 hl X hX hbl hLx hM hk hn hx hzl hW hP i0 i1 ha1 ga1 q0 kk
theorem lt_lineChar (hl : l.stackTraces = false) (X : CF p m cd code 9 s args RL) (hX : va_X b Lx xs s s.heap) (hbl : b < s.heap.size) (hLx : Lx ≤ 2560) (hM : MS E [] s H lo) (hk : kq + 60 ≤ 603072) (hn : nq + 4000 ≤ 7211113) (hx : s.heap.size ≤ x) (hI : LawI E x H) (i0 : 0 ≤ i) (i1 : i + 5 ≤ (Lx : Int)) (kk : ∀ (H1 : Heap) (lo1 : List Loc), MS E [] s H1 lo1 → LawI E x H1 → V p l e room_1 s m args below meth cd Q 9 H1 lo1 (kq + 60) (nq + 4000) 3555 [(5, .int (zI i)), (4, .ref (x + 340)), (3, .ref (x + 339)), (2, .ref (x + 334)), (1, .ref x), (0, .ref b)] []) : V p l e room_1 s m args below meth cd Q 9 H lo kq nq 3144 [(5, .int (zI i)), (4, .ref (x + 340)), (3, .ref (x + 339)), (2, .ref (x + 334)), (1, .ref x), (0, .ref b)] [] := by
  obtain ⟨hzl, v, N, f, nn, v2, N2, f2, n2, co, bf, cv, hc, nx, sz, hs, er, fa, ss, dk, se, po, si, pr, ml, ml2, mo, lg, dg, hW, hP⟩ := hI
  obtain ⟨a1, ha1⟩ : ∃ a, (xs (i + 1).toNat).toInt = a := ⟨_, rfl⟩
  have ga1 : Rg a1 := by rw [← ha1]; exact rg_t _
  by_cases q0 : 0 ≤ a1 ∧ a1 < n2
  · exact lo_lineChar hl X hX hbl hLx hM hk hn hx hzl hW hP i0 i1 ha1 ga1 q0.1 q0.2 kk
  · exact lo_lineChar_1 hl X hX hbl hLx hM hk hn hx hzl hW hP i0 i1 ha1 ga1 q0 kk
theorem lt_append (hl : l.stackTraces = false) (X : CF p m cd code 9 s args RL) (hX : va_X b Lx xs s s.heap) (hbl : b < s.heap.size) (hLx : Lx ≤ 2560) (hM : MS E [] s H lo) (hk : kq + 60 ≤ 603072) (hn : nq + 4000 ≤ 7211113) (hx : s.heap.size ≤ x) (hI : LawI E x H) (i0 : 0 ≤ i) (i1 : i + 5 ≤ (Lx : Int)) (kk : ∀ (H1 : Heap) (lo1 : List Loc), MS E [] s H1 lo1 → LawI E x H1 → V p l e room_1 s m args below meth cd Q 9 H1 lo1 (kq + 60) (nq + 4000) 3555 [(5, .int (zI i)), (4, .ref (x + 340)), (3, .ref (x + 339)), (2, .ref (x + 334)), (1, .ref x), (0, .ref b)] []) : V p l e room_1 s m args below meth cd Q 9 H lo kq nq 3200 [(5, .int (zI i)), (4, .ref (x + 340)), (3, .ref (x + 339)), (2, .ref (x + 334)), (1, .ref x), (0, .ref b)] [] := by
  obtain ⟨hzl, v, N, f, nn, v2, N2, f2, n2, co, bf, cv, hc, nx, sz, hs, er, fa, ss, dk, se, po, si, pr, ml, ml2, mo, lg, dg, hW, hP⟩ := hI
  obtain ⟨a1, ha1⟩ : ∃ a, (xs (i + 1).toNat).toInt = a := ⟨_, rfl⟩
  have ga1 : Rg a1 := by rw [← ha1]; exact rg_t _
  obtain ⟨ch, hch1⟩ : ∃ ch, (((zI a1).toUInt32 % 65536).toInt32).toInt = ch := ⟨_, rfl⟩
  have gc : 0 ≤ ch ∧ ch < 65536 := by rw [← hch1]; exact ch_b _
  by_cases q0 : 32 ≤ ch ∧ ch ≤ 126
  · by_cases q1 : nn < 60
    · exact lo_append hl X hX hbl hLx hM hk hn hx hzl hW hP i0 i1 ha1 ga1 hch1 gc q0 q1 kk
    · exact lo_append_2 hl X hX hbl hLx hM hk hn hx hzl hW hP i0 i1 ha1 ga1 hch1 gc q0 (by omega) kk
  · exact lo_append_1 hl X hX hbl hLx hM hk hn hx hzl hW hP i0 i1 ha1 ga1 hch1 gc q0 kk
theorem lt_run (hl : l.stackTraces = false) (X : CF p m cd code 9 s args RL) (hX : va_X b Lx xs s s.heap) (hbl : b < s.heap.size) (hLx : Lx ≤ 2560) (hM : MS E [] s H lo) (hk : kq + 60 ≤ 603072) (hn : nq + 4000 ≤ 7211113) (hx : s.heap.size ≤ x) (hI : LawI E x H) (i0 : 0 ≤ i) (i1 : i + 5 ≤ (Lx : Int)) (kk : ∀ (H1 : Heap) (lo1 : List Loc), MS E [] s H1 lo1 → LawI E x H1 → V p l e room_1 s m args below meth cd Q 9 H1 lo1 (kq + 60) (nq + 4000) 3555 [(5, .int (zI i)), (4, .ref (x + 340)), (3, .ref (x + 339)), (2, .ref (x + 334)), (1, .ref x), (0, .ref b)] []) : V p l e room_1 s m args below meth cd Q 9 H lo kq nq 3258 [(5, .int (zI i)), (4, .ref (x + 340)), (3, .ref (x + 339)), (2, .ref (x + 334)), (1, .ref x), (0, .ref b)] [] := by
  obtain ⟨hzl, v, N, f, nn, v2, N2, f2, n2, co, bf, cv, hc, nx, sz, hs, er, fa, ss, dk, se, po, si, pr, ml, ml2, mo, lg, dg, hW, hP⟩ := hI
  have pb := paF_b (f := f) (n := nn) hP.2.2.2.1.2.1.2 61 0 0 pr hP.2.2.2.2.2.1 (by decide) hP.2.2.2.1.2.1.1 (by decide) (by decide)
  obtain ⟨an, p2, s2, pq, hpa⟩ : ∃ an p2 s2 pq, paF f nn 61 0 0 pr = (an, p2, s2, pq) := ⟨_, _, _, _, rfl⟩
  rw [hpa] at pb
  have ha9 : an = 0 ∨ an = 1 := pb.2.2.2
  rcases ha9 with q | q
  · subst q
    exact lo_run_1 hl X hX hbl hLx hM hk hn hx hzl hW hP i0 i1 hpa kk
  · subst q
    by_cases hx9 : (exF pq s2.toNat 0 co).1 = 0
    · exact lo_run hl X hX hbl hLx hM hk hn hx hzl hW hP i0 i1 hpa hx9 kk
    · exact lo_run_2 hl X hX hbl hLx hM hk hn hx hzl hW hP i0 i1 hpa hx9 kk
theorem lo_disp (hl : l.stackTraces = false) (X : CF p m cd code 9 s args RL) (hX : va_X b Lx xs s s.heap) (hbl : b < s.heap.size) (hLx : Lx ≤ 2560) (hM : MS E [] s H lo) (hk : kq + 60 ≤ 603072) (hn : nq + 4000 ≤ 7211113) (hx : s.heap.size ≤ x) (hI : LawI E x H) (i0 : 0 ≤ i) (i1 : i + 5 ≤ (Lx : Int)) (kk : ∀ (H1 : Heap) (lo1 : List Loc), MS E [] s H1 lo1 → LawI E x H1 → V p l e room_1 s m args below meth cd Q 9 H1 lo1 (kq + 60) (nq + 4000) 3555 [(5, .int (zI i)), (4, .ref (x + 340)), (3, .ref (x + 339)), (2, .ref (x + 334)), (1, .ref x), (0, .ref b)] []) : ∀ q : Nat, q < 64 → V p l e room_1 s m args below meth cd Q 9 H lo kq nq 44 [(5, .int (zI i)), (4, .ref (x + 340)), (3, .ref (x + 339)), (2, .ref (x + 334)), (1, .ref x), (0, .ref b)] [.int (zI (q : Int))]
  | 0, _ => by
    refine v_tabIn X (by omega) dL_law_44 (by omega) (by omega) 0 (by omega) (off := 268) rfl 312 (by decide) ?_
    exact lt_charge hl X hX hbl hLx hM hk hn hx hI i0 i1 kk
  | 1, _ => by
    refine v_tabIn X (by omega) dL_law_44 (by omega) (by omega) 1 (by omega) (off := 336) rfl 380 (by decide) ?_
    exact lt_addWitness hl X hX hbl hLx hM hk hn hx hI i0 i1 kk
  | 2, _ => by
    refine v_tabIn X (by omega) dL_law_44 (by omega) (by omega) 2 (by omega) (off := 392) rfl 436 (by decide) ?_
    exact lt_testify hl X hX hbl hLx hM hk hn hx hI i0 i1 kk
  | 3, _ => by
    refine v_tabIn X (by omega) dL_law_44 (by omega) (by omega) 3 (by omega) (off := 500) rfl 544 (by decide) ?_
    exact lt_question hl X hX hbl hLx hM hk hn hx hI i0 i1 kk
  | 4, _ => by
    refine v_tabIn X (by omega) dL_law_44 (by omega) (by omega) 4 (by omega) (off := 596) rfl 640 (by decide) ?_
    exact lt_decide hl X hX hbl hLx hM hk hn hx hI i0 i1 kk
  | 5, _ => by
    refine v_tabIn X (by omega) dL_law_44 (by omega) (by omega) 5 (by omega) (off := 659) rfl 703 (by decide) ?_
    exact lt_appeal hl X hX hbl hLx hM hk hn hx hI i0 i1 kk
  | 6, _ => by
    refine v_tabIn X (by omega) dL_law_44 (by omega) (by omega) 6 (by omega) (off := 715) rfl 759 (by decide) ?_
    exact lt_close hl X hX hbl hLx hM hk hn hx hI i0 i1 kk
  | 7, _ => by
    refine v_tabIn X (by omega) dL_law_44 (by omega) (by omega) 7 (by omega) (off := 771) rfl 815 (by decide) ?_
    exact lt_caseCount hl X hX hbl hLx hM hk hn hx hI i0 i1 kk
  | 8, _ => by
    refine v_tabIn X (by omega) dL_law_44 (by omega) (by omega) 8 (by omega) (off := 784) rfl 828 (by decide) ?_
    exact lt_caseOf hl X hX hbl hLx hM hk hn hx hI i0 i1 kk
  | 9, _ => by
    refine v_tabIn X (by omega) dL_law_44 (by omega) (by omega) 9 (by omega) (off := 852) rfl 896 (by decide) ?_
    exact lt_defendantOf hl X hX hbl hLx hM hk hn hx hI i0 i1 kk
  | 10, _ => by
    refine v_tabIn X (by omega) dL_law_44 (by omega) (by omega) 10 (by omega) (off := 908) rfl 952 (by decide) ?_
    exact lt_offenceOf hl X hX hbl hLx hM hk hn hx hI i0 i1 kk
  | 11, _ => by
    refine v_tabIn X (by omega) dL_law_44 (by omega) (by omega) 11 (by omega) (off := 964) rfl 1008 (by decide) ?_
    exact lt_isOpen hl X hX hbl hLx hM hk hn hx hI i0 i1 kk
  | 12, _ => by
    refine v_tabIn X (by omega) dL_law_44 (by omega) (by omega) 12 (by omega) (off := 1027) rfl 1071 (by decide) ?_
    exact lt_isDecided hl X hX hbl hLx hM hk hn hx hI i0 i1 kk
  | 13, _ => by
    refine v_tabIn X (by omega) dL_law_44 (by omega) (by omega) 13 (by omega) (off := 1090) rfl 1134 (by decide) ?_
    exact lt_isClosed hl X hX hbl hLx hM hk hn hx hI i0 i1 kk
  | 14, _ => by
    refine v_tabIn X (by omega) dL_law_44 (by omega) (by omega) 14 (by omega) (off := 1153) rfl 1197 (by decide) ?_
    exact lt_isGuilty hl X hX hbl hLx hM hk hn hx hI i0 i1 kk
  | 15, _ => by
    refine v_tabIn X (by omega) dL_law_44 (by omega) (by omega) 15 (by omega) (off := 1216) rfl 1260 (by decide) ?_
    exact lt_appealCount hl X hX hbl hLx hM hk hn hx hI i0 i1 kk
  | 16, _ => by
    refine v_tabIn X (by omega) dL_law_44 (by omega) (by omega) 16 (by omega) (off := 1272) rfl 1316 (by decide) ?_
    exact lt_testimonyCount hl X hX hbl hLx hM hk hn hx hI i0 i1 kk
  | 17, _ => by
    refine v_tabIn X (by omega) dL_law_44 (by omega) (by omega) 17 (by omega) (off := 1328) rfl 1372 (by decide) ?_
    exact lt_witnessAt hl X hX hbl hLx hM hk hn hx hI i0 i1 kk
  | 18, _ => by
    refine v_tabIn X (by omega) dL_law_44 (by omega) (by omega) 18 (by omega) (off := 1396) rfl 1440 (by decide) ?_
    exact lt_hasTestified hl X hX hbl hLx hM hk hn hx hI i0 i1 kk
  | 19, _ => by
    refine v_tabIn X (by omega) dL_law_44 (by omega) (by omega) 19 (by omega) (off := 1471) rfl 1515 (by decide) ?_
    exact lt_isForProsecution hl X hX hbl hLx hM hk hn hx hI i0 i1 kk
  | 20, _ => by
    refine v_tabIn X (by omega) dL_law_44 (by omega) (by omega) 20 (by omega) (off := 1546) rfl 1590 (by decide) ?_
    exact lt_strength hl X hX hbl hLx hM hk hn hx hI i0 i1 kk
  | 21, _ => by
    refine v_tabIn X (by omega) dL_law_44 (by omega) (by omega) 21 (by omega) (off := 1614) rfl 1658 (by decide) ?_
    exact lt_questionCount hl X hX hbl hLx hM hk hn hx hI i0 i1 kk
  | 22, _ => by
    refine v_tabIn X (by omega) dL_law_44 (by omega) (by omega) 22 (by omega) (off := 1682) rfl 1726 (by decide) ?_
    exact lt_witnessCount hl X hX hbl hLx hM hk hn hx hI i0 i1 kk
  | 23, _ => by
    refine v_tabIn X (by omega) dL_law_44 (by omega) (by omega) 23 (by omega) (off := 1695) rfl 1739 (by decide) ?_
    exact lt_credibility hl X hX hbl hLx hM hk hn hx hI i0 i1 kk
  | 24, _ => by
    refine v_tabIn X (by omega) dL_law_44 (by omega) (by omega) 24 (by omega) (off := 1751) rfl 1795 (by decide) ?_
    exact lt_casesOfWitness hl X hX hbl hLx hM hk hn hx hI i0 i1 kk
  | 25, _ => by
    refine v_tabIn X (by omega) dL_law_44 (by omega) (by omega) 25 (by omega) (off := 1807) rfl 1851 (by decide) ?_
    exact lt_mostCredible hl X hX hbl hLx hM hk hn hx hI i0 i1 kk
  | 26, _ => by
    refine v_tabIn X (by omega) dL_law_44 (by omega) (by omega) 26 (by omega) (off := 1863) rfl 1907 (by decide) ?_
    exact lt_agreement hl X hX hbl hLx hM hk hn hx hI i0 i1 kk
  | 27, _ => by
    refine v_tabIn X (by omega) dL_law_44 (by omega) (by omega) 27 (by omega) (off := 1931) rfl 1975 (by decide) ?_
    exact lt_areConnected hl X hX hbl hLx hM hk hn hx hI i0 i1 kk
  | 28, _ => by
    refine v_tabIn X (by omega) dL_law_44 (by omega) (by omega) 28 (by omega) (off := 2006) rfl 2050 (by decide) ?_
    exact lt_areConnectedBySearch hl X hX hbl hLx hM hk hn hx hI i0 i1 kk
  | 29, _ => by
    refine v_tabIn X (by omega) dL_law_44 (by omega) (by omega) 29 (by omega) (off := 2081) rfl 2125 (by decide) ?_
    exact lt_groupSize hl X hX hbl hLx hM hk hn hx hI i0 i1 kk
  | 30, _ => by
    refine v_tabIn X (by omega) dL_law_44 (by omega) (by omega) 30 (by omega) (off := 2137) rfl 2181 (by decide) ?_
    exact lt_groupCount hl X hX hbl hLx hM hk hn hx hI i0 i1 kk
  | 31, _ => by
    refine v_tabIn X (by omega) dL_law_44 (by omega) (by omega) 31 (by omega) (off := 2150) rfl 2194 (by decide) ?_
    exact lt_heaviestWitness hl X hX hbl hLx hM hk hn hx hI i0 i1 kk
  | 32, _ => by
    refine v_tabIn X (by omega) dL_law_44 (by omega) (by omega) 32 (by omega) (off := 2206) rfl 2250 (by decide) ?_
    exact lt_nextToDecide hl X hX hbl hLx hM hk hn hx hI i0 i1 kk
  | 33, _ => by
    refine v_tabIn X (by omega) dL_law_44 (by omega) (by omega) 33 (by omega) (off := 2250) rfl 2294 (by decide) ?_
    exact lt_prosecutionWeight hl X hX hbl hLx hM hk hn hx hI i0 i1 kk
  | 34, _ => by
    refine v_tabIn X (by omega) dL_law_44 (by omega) (by omega) 34 (by omega) (off := 2306) rfl 2350 (by decide) ?_
    exact lt_defenceWeight hl X hX hbl hLx hM hk hn hx hI i0 i1 kk
  | 35, _ => by
    refine v_tabIn X (by omega) dL_law_44 (by omega) (by omega) 35 (by omega) (off := 2362) rfl 2406 (by decide) ?_
    exact lt_margin hl X hX hbl hLx hM hk hn hx hI i0 i1 kk
  | 36, _ => by
    refine v_tabIn X (by omega) dL_law_44 (by omega) (by omega) 36 (by omega) (off := 2418) rfl 2462 (by decide) ?_
    exact lt_marginByCredibility hl X hX hbl hLx hM hk hn hx hI i0 i1 kk
  | 37, _ => by
    refine v_tabIn X (by omega) dL_law_44 (by omega) (by omega) 37 (by omega) (off := 2474) rfl 2518 (by decide) ?_
    exact lt_firmAnswersToGuilty hl X hX hbl hLx hM hk hn hx hI i0 i1 kk
  | 38, _ => by
    refine v_tabIn X (by omega) dL_law_44 (by omega) (by omega) 38 (by omega) (off := 2542) rfl 2586 (by decide) ?_
    exact lt_sentence hl X hX hbl hLx hM hk hn hx hI i0 i1 kk
  | 39, _ => by
    refine v_tabIn X (by omega) dL_law_44 (by omega) (by omega) 39 (by omega) (off := 2598) rfl 2642 (by decide) ?_
    exact lt_sentenceByCases hl X hX hbl hLx hM hk hn hx hI i0 i1 kk
  | 40, _ => by
    refine v_tabIn X (by omega) dL_law_44 (by omega) (by omega) 40 (by omega) (off := 2654) rfl 2698 (by decide) ?_
    exact lt_mostSentenced hl X hX hbl hLx hM hk hn hx hI i0 i1 kk
  | 41, _ => by
    refine v_tabIn X (by omega) dL_law_44 (by omega) (by omega) 41 (by omega) (off := 2667) rfl 2711 (by decide) ?_
    exact lt_docketLength hl X hX hbl hLx hM hk hn hx hI i0 i1 kk
  | 42, _ => by
    refine v_tabIn X (by omega) dL_law_44 (by omega) (by omega) 42 (by omega) (off := 2680) rfl 2724 (by decide) ?_
    exact lt_docketAt hl X hX hbl hLx hM hk hn hx hI i0 i1 kk
  | 43, _ => by
    refine v_tabIn X (by omega) dL_law_44 (by omega) (by omega) 43 (by omega) (off := 2736) rfl 2780 (by decide) ?_
    exact lt_docketPosition hl X hX hbl hLx hM hk hn hx hI i0 i1 kk
  | 44, _ => by
    refine v_tabIn X (by omega) dL_law_44 (by omega) (by omega) 44 (by omega) (off := 2792) rfl 2836 (by decide) ?_
    exact lt_closedCount hl X hX hbl hLx hM hk hn hx hI i0 i1 kk
  | 45, _ => by
    refine v_tabIn X (by omega) dL_law_44 (by omega) (by omega) 45 (by omega) (off := 2805) rfl 2849 (by decide) ?_
    exact lt_guiltyCount hl X hX hbl hLx hM hk hn hx hI i0 i1 kk
  | 46, _ => by
    refine v_tabIn X (by omega) dL_law_44 (by omega) (by omega) 46 (by omega) (off := 2818) rfl 2862 (by decide) ?_
    exact lt_decisionCount hl X hX hbl hLx hM hk hn hx hI i0 i1 kk
  | 47, _ => by
    refine v_tabIn X (by omega) dL_law_44 (by omega) (by omega) 47 (by omega) (off := 2831) rfl 2875 (by decide) ?_
    exact lt_questionTotal hl X hX hbl hLx hM hk hn hx hI i0 i1 kk
  | 48, _ => by
    refine v_tabIn X (by omega) dL_law_44 (by omega) (by omega) 48 (by omega) (off := 2844) rfl 2888 (by decide) ?_
    exact lt_meanCredibility hl X hX hbl hLx hM hk hn hx hI i0 i1 kk
  | 49, _ => by
    refine v_tabIn X (by omega) dL_law_44 (by omega) (by omega) 49 (by omega) (off := 2909) rfl 2953 (by decide) ?_
    exact lt_guiltyShare hl X hX hbl hLx hM hk hn hx hI i0 i1 kk
  | 50, _ => by
    refine v_tabIn X (by omega) dL_law_44 (by omega) (by omega) 50 (by omega) (off := 2975) rfl 3019 (by decide) ?_
    exact lt_isConsistent hl X hX hbl hLx hM hk hn hx hI i0 i1 kk
  | 51, _ => by
    refine v_tabIn X (by omega) dL_law_44 (by omega) (by omega) 51 (by omega) (off := 2988) rfl 3032 (by decide) ?_
    exact lt_formatCase hl X hX hbl hLx hM hk hn hx hI i0 i1 kk
  | 52, _ => by
    refine v_tabIn X (by omega) dL_law_44 (by omega) (by omega) 52 (by omega) (off := 3044) rfl 3088 (by decide) ?_
    exact lt_formatWitness hl X hX hbl hLx hM hk hn hx hI i0 i1 kk
  | 53, _ => by
    refine v_tabIn X (by omega) dL_law_44 (by omega) (by omega) 53 (by omega) (off := 3100) rfl 3144 (by decide) ?_
    exact lt_lineChar hl X hX hbl hLx hM hk hn hx hI i0 i1 kk
  | 54, _ => by
    refine v_tabIn X (by omega) dL_law_44 (by omega) (by omega) 54 (by omega) (off := 3156) rfl 3200 (by decide) ?_
    exact lt_append hl X hX hbl hLx hM hk hn hx hI i0 i1 kk
  | 55, _ => by
    refine v_tabIn X (by omega) dL_law_44 (by omega) (by omega) 55 (by omega) (off := 3214) rfl 3258 (by decide) ?_
    exact lt_run hl X hX hbl hLx hM hk hn hx hI i0 i1 kk
  | 56, _ => by
    refine v_tabIn X (by omega) dL_law_44 (by omega) (by omega) 56 (by omega) (off := 3258) rfl 3302 (by decide) ?_
    exact lt_errorPosition hl X hX hbl hLx hM hk hn hx hI i0 i1 kk
  | 57, _ => by
    refine v_tabIn X (by omega) dL_law_44 (by omega) (by omega) 57 (by omega) (off := 3302) rfl 3346 (by decide) ?_
    exact lt_failedCommand hl X hX hbl hLx hM hk hn hx hI i0 i1 kk
  | 58, _ => by
    refine v_tabIn X (by omega) dL_law_44 (by omega) (by omega) 58 (by omega) (off := 3346) rfl 3390 (by decide) ?_
    exact lt_isFailureOfState hl X hX hbl hLx hM hk hn hx hI i0 i1 kk
  | 59, _ => by
    refine v_tabIn X (by omega) dL_law_44 (by omega) (by omega) 59 (by omega) (off := 3397) rfl 3441 (by decide) ?_
    exact lt_undoableCount hl X hX hbl hLx hM hk hn hx hI i0 i1 kk
  | 60, _ => by
    refine v_tabIn X (by omega) dL_law_44 (by omega) (by omega) 60 (by omega) (off := 3410) rfl 3454 (by decide) ?_
    exact lt_undo hl X hX hbl hLx hM hk hn hx hI i0 i1 kk
  | 61, _ => by
    refine v_tabIn X (by omega) dL_law_44 (by omega) (by omega) 61 (by omega) (off := 3454) rfl 3498 (by decide) ?_
    exact lt_save hl X hX hbl hLx hM hk hn hx hI i0 i1 kk
  | 62, _ => by
    refine v_tabIn X (by omega) dL_law_44 (by omega) (by omega) 62 (by omega) (off := 3467) rfl 3511 (by decide) ?_
    exact lt_restore hl X hX hbl hLx hM hk hn hx hI i0 i1 kk
  | 63, _ => by
    refine v_tabOut X (by omega) dL_law_44 (by omega) 3555 (by decide) ?_
    refine v_widen (k' := kq + 60) (n' := nq + 4000) (by omega) (by omega) ?_
    exact kk _ _ hM hI
  | q + 64, h => absurd h (by omega)
set_option maxRecDepth 20000 in
theorem law_loop (hl : l.stackTraces = false) (X : CF p m cd code 9 s args RL) (hX : va_X b Lx xs s s.heap) (hbl : b < s.heap.size) (hLx : Lx ≤ 2560) (hx : s.heap.size ≤ x) (kend : ∀ (H : Heap) (lo : List Loc) (kq nq : Nat) (i : Int), MS E [] s H lo → kq ≤ 603072 → nq ≤ 7211113 → V p l e room_1 s m args below meth cd Q 9 H lo kq nq 3561 [(5, .int (zI i)), (4, .ref (x + 340)), (3, .ref (x + 339)), (2, .ref (x + 334)), (1, .ref x), (0, .ref b)] []) : ∀ (r : Nat) (H : Heap) (lo : List Loc) (kq nq : Nat) (i : Int), MS E [] s H lo → LawI E x H → 0 ≤ i → i ≤ (Lx : Int) → (Lx : Int) - i < 5 * ((r : Int) + 1) → kq + 60 * r ≤ 603072 → nq + 4000 * r ≤ 7211113 → V p l e room_1 s m args below meth cd Q 9 H lo kq nq 28 [(5, .int (zI i)), (4, .ref (x + 340)), (3, .ref (x + 339)), (2, .ref (x + 334)), (1, .ref x), (0, .ref b)] [] := by
  intro r
  induction r with
  | zero =>
    intro H lo kq nq i hM hI i0 i9 hr hk hn
    have hbf : ¬ Fr [] s.heap.size b := fun z => z.elim (fun q => q.elim) (fun q => by omega)
    refine v_iload X dL_law_28 30 rfl 0 rfl ?_
    refine v_aload_n X dL_law_30 31 rfl 5 rfl ?_
    refine v_slen X hM hX hbl hbf dL_law_31 32 rfl ?_
    refine v_iconst X dL_law_32 33 rfl ?_
    refine v_isub X dL_law_33 34 rfl ?_
    refine v_icmp_gt X (by omega) (by omega) dL_law_34 37 3561 rfl (by decide) (fun c_1 => ?_) (fun c_1 => ?_)
    · exact kend H lo kq nq i hM (by omega) (by omega)
    · exfalso; omega
  | succ r ih =>
    intro H lo kq nq i hM hI i0 i9 hr hk hn
    have hbf : ¬ Fr [] s.heap.size b := fun z => z.elim (fun q => q.elim) (fun q => by omega)
    refine v_iload X dL_law_28 30 rfl 0 rfl ?_
    refine v_aload_n X dL_law_30 31 rfl 5 rfl ?_
    refine v_slen X hM hX hbl hbf dL_law_31 32 rfl ?_
    refine v_iconst X dL_law_32 33 rfl ?_
    refine v_isub X dL_law_33 34 rfl ?_
    refine v_icmp_gt X (by omega) (by omega) dL_law_34 37 3561 rfl (by decide) (fun c_1 => ?_) (fun c_1 => ?_)
    · exact kend H lo kq nq i hM (by omega) (by omega)
    · refine v_aload_n X dL_law_37 38 rfl 5 rfl ?_
      refine v_iload X dL_law_38 40 rfl 0 rfl ?_
      refine v_scr X hM hX hbl hbf (by omega) (by omega) hLx (a := (xs i.toNat).toInt) rfl dL_law_40 41 rfl ?_
      refine v_bipush X dL_law_41 43 rfl rfl ?_
      have hq := and63 (zI (xs i.toNat).toInt)
      refine v_and63 (q := (zI (xs i.toNat).toInt &&& zI 63).toInt.toNat) X (by omega) dL_law_43 44 rfl ?_
      have hk1 : kq + 60 ≤ 603072 := by omega
      have hn1 : nq + 4000 ≤ 7211113 := by omega
      have hi1 : i + 5 ≤ (Lx : Int) := by omega
      refine lo_disp hl X hX hbl hLx hM hk1 hn1 hx hI i0 hi1 (fun H1 lo1 hM1 hI1 => ?_) _ (by omega)
      refine v_iinc X dL_law_3555 3558 rfl 0 rfl (by decide) (L' := [(5, .int (zI (i + 5))), (4, .ref (x + 340)), (3, .ref (x + 339)), (2, .ref (x + 334)), (1, .ref x), (0, .ref b)]) rfl ?_
      refine v_goto X dL_law_3558 28 (by decide) ?_
      exact ih H1 lo1 (kq + 60) (nq + 4000) (i + 5) hM1 hI1 (by omega) (by omega) (by omega) (by omega) (by omega)
end LAWOPS
