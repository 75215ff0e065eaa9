theorem klay_Jx00060_0 : u_lay RJx00060 TJx00060 0 ∈ WA := WA_of (i := 1110) (by decide +kernel) (by decide +kernel)
theorem klay_Jx00060_1 : u_lay RJx00060 TJx00060 1 ∈ WA := WA_of (i := 1111) (by decide +kernel) (by decide +kernel)
theorem klay_Jx00060_2 : u_lay RJx00060 TJx00060 2 ∈ WA := WA_of (i := 1112) (by decide +kernel) (by decide +kernel)
theorem klay_Jx00060_3 : u_lay RJx00060 TJx00060 3 ∈ WA := WA_of (i := 1113) (by decide +kernel) (by decide +kernel)
theorem klay_Jx00060_4 : u_lay RJx00060 TJx00060 4 ∈ WA := WA_of (i := 1114) (by decide +kernel) (by decide +kernel)
theorem klay_Jx00060_5 : u_lay RJx00060 TJx00060 5 ∈ WA := WA_of (i := 1125) (by decide +kernel) (by decide +kernel)
theorem inJx00060 : ∀ w ∈ u_ws RJx00060 TJx00060 6, w ∈ WA := by
  intro w h
  obtain ⟨k, hk, rfl⟩ := List.mem_map.mp h
  have hk := List.mem_range.mp hk
  rcases (show k = 0 ∨ k = 1 ∨ k = 2 ∨ k = 3 ∨ k = 4 ∨ k = 5 by omega) with rfl | rfl | rfl | rfl | rfl | rfl
  · exact klay_Jx00060_0
  · exact klay_Jx00060_1
  · exact klay_Jx00060_2
  · exact klay_Jx00060_3
  · exact klay_Jx00060_4
  · exact klay_Jx00060_5
theorem klay_Jx7c733_0 : u_lay RJx7c733 TJx7c733 0 ∈ WA := WA_of (i := 1085) (by decide +kernel) (by decide +kernel)
theorem klay_Jx7c733_1 : u_lay RJx7c733 TJx7c733 1 ∈ WA := WA_of (i := 1086) (by decide +kernel) (by decide +kernel)
theorem klay_Jx7c733_2 : u_lay RJx7c733 TJx7c733 2 ∈ WA := WA_of (i := 1087) (by decide +kernel) (by decide +kernel)
theorem klay_Jx7c733_3 : u_lay RJx7c733 TJx7c733 3 ∈ WA := WA_of (i := 1088) (by decide +kernel) (by decide +kernel)
theorem klay_Jx7c733_4 : u_lay RJx7c733 TJx7c733 4 ∈ WA := WA_of (i := 1089) (by decide +kernel) (by decide +kernel)
theorem klay_Jx7c733_5 : u_lay RJx7c733 TJx7c733 5 ∈ WA := WA_of (i := 1090) (by decide +kernel) (by decide +kernel)
theorem inJx7c733 : ∀ w ∈ u_ws RJx7c733 TJx7c733 6, w ∈ WA := by
  intro w h
  obtain ⟨k, hk, rfl⟩ := List.mem_map.mp h
  have hk := List.mem_range.mp hk
  rcases (show k = 0 ∨ k = 1 ∨ k = 2 ∨ k = 3 ∨ k = 4 ∨ k = 5 by omega) with rfl | rfl | rfl | rfl | rfl | rfl
  · exact klay_Jx7c733_0
  · exact klay_Jx7c733_1
  · exact klay_Jx7c733_2
  · exact klay_Jx7c733_3
  · exact klay_Jx7c733_4
  · exact klay_Jx7c733_5
theorem st_cl {s : State} {args : Array Value} (hts : ∀ w ∈ WA, w.before args s = true) : ∃ (dC : Nat → ClassId) (dI : Nat → Nat → Nat), ∀ (k : Nat) (q : vw_C), vwCl[k]? = some q → u_Kn s q.1 q.2.1 q.2.2 (dC k) (dI k) := by
  have h : ∀ k : Nat, ∃ z : ClassId × (Nat → Nat), ∀ q : vw_C, vwCl[k]? = some q → u_Kn s q.1 q.2.1 q.2.2 z.1 z.2 := by
    intro k
    match k with
    | 0 =>
      obtain ⟨c, i, h⟩ := u_known (C := RJ0) (T := TJ0) (N := 4) hts inJ0 (hts _ kins_J0)
      exact ⟨(c, i), fun q hq => by cases hq; exact h⟩
    | 1 =>
      obtain ⟨c, i, h⟩ := u_known (C := RJ4) (T := TJ4) (N := 4) hts inJ4 (hts _ kins_J4)
      exact ⟨(c, i), fun q hq => by cases hq; exact h⟩
    | 2 =>
      obtain ⟨c, i, h⟩ := u_known (C := RJx00060) (T := TJx00060) (N := 6) hts inJx00060 (hts _ kins_Jx00060)
      exact ⟨(c, i), fun q hq => by cases hq; exact h⟩
    | 3 =>
      obtain ⟨c, i, h⟩ := u_known (C := RJx7c733) (T := TJx7c733) (N := 6) hts inJx7c733 (hts _ kins_Jx7c733)
      exact ⟨(c, i), fun q hq => by cases hq; exact h⟩
    | 4 =>
      obtain ⟨c, i, h⟩ := u_known (C := RX0) (T := TX0) (N := 17) hts inX0 (hts _ kins_X0)
      exact ⟨(c, i), fun q hq => by cases hq; exact h⟩
    | 5 =>
      obtain ⟨c, i, h⟩ := u_known (C := RX1) (T := TX1) (N := 2) hts inX1 (hts _ kins_X1)
      exact ⟨(c, i), fun q hq => by cases hq; exact h⟩
    | 6 =>
      obtain ⟨c, i, h⟩ := u_known (C := RX3) (T := TX3) (N := 1) hts inX3 (hts _ kins_X3)
      exact ⟨(c, i), fun q hq => by cases hq; exact h⟩
    | 7 =>
      obtain ⟨c, i, h⟩ := u_known (C := RX4) (T := TX4) (N := 3) hts inX4 (hts _ kins_X4)
      exact ⟨(c, i), fun q hq => by cases hq; exact h⟩
    | 8 =>
      obtain ⟨c, i, h⟩ := u_known (C := RX5) (T := TX5) (N := 8) hts inX5 (hts _ kins_X5)
      exact ⟨(c, i), fun q hq => by cases hq; exact h⟩
    | 9 =>
      obtain ⟨c, i, h⟩ := u_known (C := RX6) (T := TX6) (N := 1) hts inX6 (hts _ kins_X6)
      exact ⟨(c, i), fun q hq => by cases hq; exact h⟩
    | 10 =>
      obtain ⟨c, i, h⟩ := u_known (C := RX7) (T := TX7) (N := 3) hts inX7 (hts _ kins_X7)
      exact ⟨(c, i), fun q hq => by cases hq; exact h⟩
    | 11 =>
      obtain ⟨c, i, h⟩ := u_known (C := RX9) (T := TX9) (N := 12) hts inX9 (hts _ kins_X9)
      exact ⟨(c, i), fun q hq => by cases hq; exact h⟩
    | k + 12 => exact ⟨(0, fun _ => 0), fun q hq => by simp at hq⟩
  obtain ⟨f, hf⟩ := Classical.axiomOfChoice h
  exact ⟨fun k => (f k).1, fun k => (f k).2, fun k q hq => hf k q hq⟩
theorem sta_int {s : State} {args : Array Value} (h : (Cond.arrayClass .int).before args s = true) : ∃ c : ClassId, ArrOfT s c .int ∧ va_RA s c .int := by
  obtain ⟨cA, kA, comp, h1, h2, h3⟩ := Cond.arrayClass_spec h
  exact ⟨cA, fun n z => ⟨fun k h => (by cases h), kA, h2, comp, h3⟩, h1⟩
theorem sta_byte {s : State} {args : Array Value} (h : (Cond.arrayClass .byte).before args s = true) : ∃ c : ClassId, ArrOfT s c .byte ∧ va_RA s c .byte := by
  obtain ⟨cA, kA, comp, h1, h2, h3⟩ := Cond.arrayClass_spec h
  exact ⟨cA, fun n z => ⟨fun k h => (by cases h), kA, h2, comp, h3⟩, h1⟩
theorem sta_court {s : State} {args : Array Value} (h : (Cond.arrayOver (.object "CaseManager$Court")).before args s = true) : ∃ c : ClassId, ArrOfT s c (.object "CaseManager$Court") ∧ va_RA s c (.object "CaseManager$Court") := by
  obtain ⟨comp, cA, kA, f4, -, f2, f3, f1⟩ := Cond.arrayOver_spec h
  exact ⟨cA, fun n z => ⟨fun k h => (by cases h), kA, f2, comp, f3⟩, kA, comp, f2, f3, f4, f1⟩
/-- what is given, a word at a time -/
abbrev GV : List Cond := flatC (Jvm.Cond.and given_1 narrow_1)
theorem st_flt {s : State} {args : Array Value} (htl : ∀ w ∈ lw_tbl, w.before args s = true) (hs : ∀ w ∈ GV, w.before args s = true) {A : Nat → Prop} (hA : ∀ a : Nat, a < s.heap.size → ¬ A a) : ∃ fl : Nat → Nat, (∀ k, k < 5 → va_Z "CaseManager$Fault" (flt k) "LCaseManager$Fault;" (.ref (fl k)) A s s.heap) ∧ (∀ j k, j < 5 → k < 5 → fl j = fl k → j = k) := by
  obtain ⟨a0, -, -, -, e0, -⟩ := Cond.exactly_spec (args := args) (first := s) (o := none) (s := s) (idx := []) (t := (Term.static "CaseManager$Fault" "NONE" "LCaseManager$Fault;")) (cls := "CaseManager$Fault") (hs _ (by decide +kernel))
  have z0 := va_Zof (A := A) (htl _ (List.mem_of_getElem? (i := 1265) (by decide +kernel))) (htl _ (List.mem_of_getElem? (i := 46) (by decide +kernel))) e0 hA
  obtain ⟨a1, -, -, -, e1, -⟩ := Cond.exactly_spec (args := args) (first := s) (o := none) (s := s) (idx := []) (t := (Term.static "CaseManager$Fault" "INDEX" "LCaseManager$Fault;")) (cls := "CaseManager$Fault") (hs _ (by decide +kernel))
  have z1 := va_Zof (A := A) (htl _ (List.mem_of_getElem? (i := 1277) (by decide +kernel))) (htl _ (List.mem_of_getElem? (i := 46) (by decide +kernel))) e1 hA
  obtain ⟨a2, -, -, -, e2, -⟩ := Cond.exactly_spec (args := args) (first := s) (o := none) (s := s) (idx := []) (t := (Term.static "CaseManager$Fault" "ARGUMENT" "LCaseManager$Fault;")) (cls := "CaseManager$Fault") (hs _ (by decide +kernel))
  have z2 := va_Zof (A := A) (htl _ (List.mem_of_getElem? (i := 1260) (by decide +kernel))) (htl _ (List.mem_of_getElem? (i := 46) (by decide +kernel))) e2 hA
  obtain ⟨a3, -, -, -, e3, -⟩ := Cond.exactly_spec (args := args) (first := s) (o := none) (s := s) (idx := []) (t := (Term.static "CaseManager$Fault" "ELEMENT" "LCaseManager$Fault;")) (cls := "CaseManager$Fault") (hs _ (by decide +kernel))
  have z3 := va_Zof (A := A) (htl _ (List.mem_of_getElem? (i := 1283) (by decide +kernel))) (htl _ (List.mem_of_getElem? (i := 46) (by decide +kernel))) e3 hA
  obtain ⟨a4, -, -, -, e4, -⟩ := Cond.exactly_spec (args := args) (first := s) (o := none) (s := s) (idx := []) (t := (Term.static "CaseManager$Fault" "STATE" "LCaseManager$Fault;")) (cls := "CaseManager$Fault") (hs _ (by decide +kernel))
  have z4 := va_Zof (A := A) (htl _ (List.mem_of_getElem? (i := 1263) (by decide +kernel))) (htl _ (List.mem_of_getElem? (i := 46) (by decide +kernel))) e4 hA
  have n24 : a2 ≠ a4 := va_neR (hs (Cond.not (Cond.eq (Term.static "CaseManager$Fault" "ARGUMENT" "LCaseManager$Fault;") (Term.static "CaseManager$Fault" "STATE" "LCaseManager$Fault;"))) (by decide +kernel)) e2 e4
  have n20 : a2 ≠ a0 := va_neR (hs (Cond.not (Cond.eq (Term.static "CaseManager$Fault" "ARGUMENT" "LCaseManager$Fault;") (Term.static "CaseManager$Fault" "NONE" "LCaseManager$Fault;"))) (by decide +kernel)) e2 e0
  have n40 : a4 ≠ a0 := va_neR (hs (Cond.not (Cond.eq (Term.static "CaseManager$Fault" "STATE" "LCaseManager$Fault;") (Term.static "CaseManager$Fault" "NONE" "LCaseManager$Fault;"))) (by decide +kernel)) e4 e0
  have n21 : a2 ≠ a1 := va_neR (hs (Cond.not (Cond.eq (Term.static "CaseManager$Fault" "ARGUMENT" "LCaseManager$Fault;") (Term.static "CaseManager$Fault" "INDEX" "LCaseManager$Fault;"))) (by decide +kernel)) e2 e1
  have n41 : a4 ≠ a1 := va_neR (hs (Cond.not (Cond.eq (Term.static "CaseManager$Fault" "STATE" "LCaseManager$Fault;") (Term.static "CaseManager$Fault" "INDEX" "LCaseManager$Fault;"))) (by decide +kernel)) e4 e1
  have n01 : a0 ≠ a1 := va_neR (hs (Cond.not (Cond.eq (Term.static "CaseManager$Fault" "NONE" "LCaseManager$Fault;") (Term.static "CaseManager$Fault" "INDEX" "LCaseManager$Fault;"))) (by decide +kernel)) e0 e1
  have n23 : a2 ≠ a3 := va_neR (hs (Cond.not (Cond.eq (Term.static "CaseManager$Fault" "ARGUMENT" "LCaseManager$Fault;") (Term.static "CaseManager$Fault" "ELEMENT" "LCaseManager$Fault;"))) (by decide +kernel)) e2 e3
  have n43 : a4 ≠ a3 := va_neR (hs (Cond.not (Cond.eq (Term.static "CaseManager$Fault" "STATE" "LCaseManager$Fault;") (Term.static "CaseManager$Fault" "ELEMENT" "LCaseManager$Fault;"))) (by decide +kernel)) e4 e3
  have n03 : a0 ≠ a3 := va_neR (hs (Cond.not (Cond.eq (Term.static "CaseManager$Fault" "NONE" "LCaseManager$Fault;") (Term.static "CaseManager$Fault" "ELEMENT" "LCaseManager$Fault;"))) (by decide +kernel)) e0 e3
  have n13 : a1 ≠ a3 := va_neR (hs (Cond.not (Cond.eq (Term.static "CaseManager$Fault" "INDEX" "LCaseManager$Fault;") (Term.static "CaseManager$Fault" "ELEMENT" "LCaseManager$Fault;"))) (by decide +kernel)) e1 e3
  refine ⟨fun k => if k = 0 then a0 else if k = 1 then a1 else if k = 2 then a2 else if k = 3 then a3 else a4, fun k hk => ?_, fun j k hj hk e => ?_⟩
  · rcases (show k = 0 ∨ k = 1 ∨ k = 2 ∨ k = 3 ∨ k = 4 by omega) with rfl | rfl | rfl | rfl | rfl
    · exact z0
    · exact z1
    · exact z2
    · exact z3
    · exact z4
  · rcases (show j = 0 ∨ j = 1 ∨ j = 2 ∨ j = 3 ∨ j = 4 by omega) with rfl | rfl | rfl | rfl | rfl <;> rcases (show k = 0 ∨ k = 1 ∨ k = 2 ∨ k = 3 ∨ k = 4 by omega) with rfl | rfl | rfl | rfl | rfl <;> first | rfl | (exfalso; simp at e; first | exact n24 e | exact n24 e.symm | exact n20 e | exact n20 e.symm | exact n40 e | exact n40 e.symm | exact n21 e | exact n21 e.symm | exact n41 e | exact n41 e.symm | exact n01 e | exact n01 e.symm | exact n23 e | exact n23 e.symm | exact n43 e | exact n43 e.symm | exact n03 e | exact n03 e.symm | exact n13 e | exact n13 e.symm)
theorem gv_DigitOnes : (GV.drop 14).take 100 = (List.range 100).map (fun j : Nat => Cond.eq (.elem (Term.static "java/lang/Integer" "DigitOnes" "[B") (.int (Int32.ofNat j))) (.int (zI (48 + (j : Int) % 10)))) := by decide +kernel
theorem gm_DigitOnes {j : Nat} (h : j < 100) : Cond.eq (.elem (Term.static "java/lang/Integer" "DigitOnes" "[B") (.int (Int32.ofNat j))) (.int (zI (48 + (j : Int) % 10))) ∈ GV := List.mem_of_mem_drop (List.mem_of_mem_take (by rw [gv_DigitOnes]; exact List.mem_map.mpr ⟨j, List.mem_range.mpr h, rfl⟩))
theorem gv_DigitTens : (GV.drop 117).take 100 = (List.range 100).map (fun j : Nat => Cond.eq (.elem (Term.static "java/lang/Integer" "DigitTens" "[B") (.int (Int32.ofNat j))) (.int (zI (48 + (j : Int) / 10)))) := by decide +kernel
theorem gm_DigitTens {j : Nat} (h : j < 100) : Cond.eq (.elem (Term.static "java/lang/Integer" "DigitTens" "[B") (.int (Int32.ofNat j))) (.int (zI (48 + (j : Int) / 10))) ∈ GV := List.mem_of_mem_drop (List.mem_of_mem_take (by rw [gv_DigitTens]; exact List.mem_map.mpr ⟨j, List.mem_range.mpr h, rfl⟩))
theorem st_dg {s : State} {args : Array Value} (htl : ∀ w ∈ lw_tbl, w.before args s = true) (hs : ∀ w ∈ GV, w.before args s = true) {A : Nat → Prop} (hA : ∀ a : Nat, a < s.heap.size → ¬ A a) : ∃ dg : Nat → Nat, ∀ k, k < 2 → va_Z "java/lang/Integer" (if k = 0 then "DigitOnes" else "DigitTens") "[B" (.ref (dg k)) A s s.heap ∧ ¬ A (dg k) ∧ ∃ cell : Cell, s.heap[dg k]? = some cell ∧ s.isArrayOf cell .byte ∧ cell.vm ≠ .unknown ∧ ∀ j : Nat, j < 100 → cell.slots[j]? = some (.int (zI (48 + (if k = 0 then (j : Int) % 10 else (j : Int) / 10)))) := by
  obtain ⟨t0, e0, c0, h01, h02, h03, h04, h05, h06, h07⟩ := va_Tof (args := args) (s := s) (tm := (Term.static "java/lang/Integer" "DigitOnes" "[B")) (ty := .byte) (N := 100) (f := fun j => .int (zI (48 + (j : Int) % 10))) (A := A) (by decide) (hs _ (List.mem_of_getElem? (i := 12) (by decide +kernel))) (va_eqt (hs (Cond.eq (.length (Term.static "java/lang/Integer" "DigitOnes" "[B")) (.int (Int32.ofNat 100))) (List.mem_of_getElem? (i := 13) (by decide +kernel)))) (fun j hj => va_eqt (hs _ (gm_DigitOnes hj))) hA
  have z0 := va_Zof (A := A) (htl _ (List.mem_of_getElem? (i := 1005) (by decide +kernel))) (htl _ (List.mem_of_getElem? (i := 59) (by decide +kernel))) e0 hA
  obtain ⟨t1, e1, c1, h11, h12, h13, h14, h15, h16, h17⟩ := va_Tof (args := args) (s := s) (tm := (Term.static "java/lang/Integer" "DigitTens" "[B")) (ty := .byte) (N := 100) (f := fun j => .int (zI (48 + (j : Int) / 10))) (A := A) (by decide) (hs _ (List.mem_of_getElem? (i := 115) (by decide +kernel))) (va_eqt (hs (Cond.eq (.length (Term.static "java/lang/Integer" "DigitTens" "[B")) (.int (Int32.ofNat 100))) (List.mem_of_getElem? (i := 116) (by decide +kernel)))) (fun j hj => va_eqt (hs _ (gm_DigitTens hj))) hA
  have z1 := va_Zof (A := A) (htl _ (List.mem_of_getElem? (i := 1007) (by decide +kernel))) (htl _ (List.mem_of_getElem? (i := 59) (by decide +kernel))) e1 hA
  refine ⟨fun k => if k = 0 then t0 else t1, fun k hk => ?_⟩
  rcases (show k = 0 ∨ k = 1 by omega) with rfl | rfl
  · exact ⟨z0, h07, c0, h01, h02, h03, h06⟩
  · exact ⟨z1, h17, c1, h11, h12, h13, h16⟩
def kwI : List Nat := [159, 164, 166, 168, 170, 175, 177, 217, 219, 221, 223, 253, 255]
abbrev kwTm (i : Nat) : Term := .string "CaseManagerLaw" (kwI.getD i 0)
abbrev kwVm (i : Nat) : Term := .field (kwTm i) "java/lang/String" "value" "[B"
theorem kw_el {s : State} {args : Array Value} (hs : ∀ w ∈ GV, w.before args s = true) : ∀ i : Nat, i < 13 → ∀ j : Nat, j < kwL.getD i 0 → (Cond.eq (.elem (kwVm i) (.int (Int32.ofNat j))) (.int ((kwB.getD i []).getD j 0))).before args s = true := by
  intro i hi j hj
  rcases (show i = 0 ∨ i = 1 ∨ i = 2 ∨ i = 3 ∨ i = 4 ∨ i = 5 ∨ i = 6 ∨ i = 7 ∨ i = 8 ∨ i = 9 ∨ i = 10 ∨ i = 11 ∨ i = 12 by omega) with rfl | rfl | rfl | rfl | rfl | rfl | rfl | rfl | rfl | rfl | rfl | rfl | rfl
  · have hj : j < 1 := hj
    rcases (show j = 0 by omega) with rfl
    exact hs _ (List.mem_of_getElem? (i := 1035) (by decide +kernel))
  · have hj : j < 1 := hj
    rcases (show j = 0 by omega) with rfl
    exact hs _ (List.mem_of_getElem? (i := 1040) (by decide +kernel))
  · have hj : j < 1 := hj
    rcases (show j = 0 by omega) with rfl
    exact hs _ (List.mem_of_getElem? (i := 1045) (by decide +kernel))
  · have hj : j < 1 := hj
    rcases (show j = 0 by omega) with rfl
    exact hs _ (List.mem_of_getElem? (i := 1050) (by decide +kernel))
  · have hj : j < 1 := hj
    rcases (show j = 0 by omega) with rfl
    exact hs _ (List.mem_of_getElem? (i := 1055) (by decide +kernel))
  · have hj : j < 1 := hj
    rcases (show j = 0 by omega) with rfl
    exact hs _ (List.mem_of_getElem? (i := 1060) (by decide +kernel))
  · exact absurd hj (Nat.not_lt_zero j)
  · have hj : j < 1 := hj
    rcases (show j = 0 by omega) with rfl
    exact hs _ (List.mem_of_getElem? (i := 1069) (by decide +kernel))
  · have hj : j < 1 := hj
    rcases (show j = 0 by omega) with rfl
    exact hs _ (List.mem_of_getElem? (i := 1074) (by decide +kernel))
  · have hj : j < 1 := hj
    rcases (show j = 0 by omega) with rfl
    exact hs _ (List.mem_of_getElem? (i := 1079) (by decide +kernel))
  · have hj : j < 1 := hj
    rcases (show j = 0 by omega) with rfl
    exact hs _ (List.mem_of_getElem? (i := 1084) (by decide +kernel))
  · have hj : j < 1 := hj
    rcases (show j = 0 by omega) with rfl
    exact hs _ (List.mem_of_getElem? (i := 1089) (by decide +kernel))
  · have hj : j < 1 := hj
    rcases (show j = 0 by omega) with rfl
    exact hs _ (List.mem_of_getElem? (i := 1094) (by decide +kernel))
theorem st_elc {args : Array Value} {s : State} {t u k : Term} (h : t.eval args s none [] s = u.eval args s none [] s) : (Term.elem t k).eval args s none [] s = (Term.elem u k).eval args s none [] s := by
  simp only [Term.eval, h]
theorem st_lnc {args : Array Value} {s : State} {t u : Term} (h : t.eval args s none [] s = u.eval args s none [] s) : (Term.length t).eval args s none [] s = (Term.length u).eval args s none [] s := by
  simp only [Term.eval, h]
theorem st_ne {args : Array Value} {s : State} {t u : Term} {a b : Nat} (ht : t.eval args s none [] s = some (.ref a)) (hu : u.eval args s none [] s = some (.ref b)) (h : ¬ a = b) : (Cond.not (Cond.eq t u)).before args s = true := by
  simp [Cond.before, Cond.holds, Cond.value, ht, hu, h]
theorem kw_df : ∀ p q : Fin 13, p ≠ q → ¬ (Int32.ofNat (kwL.getD p.val 0) = Int32.ofNat (kwL.getD q.val 0) ∧ (0 < kwL.getD p.val 0 → 0 < kwL.getD q.val 0 → (kwB.getD p.val []).getD 0 0 = (kwB.getD q.val []).getD 0 0)) := by decide +kernel
theorem st_kw {s : State} {args : Array Value} (hs : ∀ w ∈ GV, w.before args s = true) {A : Nat → Prop} (hA : ∀ a : Nat, a < s.heap.size → ¬ A a) : ∃ adK adV : Nat → Nat, vk_S 13 kwL kwB adK adV A s s.heap ∧ ∀ i : Nat, i < 13 → (kwTm i).eval args s none [] s = some (.ref (adK i)) := by
  have hex : ∀ i : Nat, i < 13 → (Cond.exactly (kwTm i) "java/lang/String").before args s = true := (fun i hi => by
    rcases (show i = 0 ∨ i = 1 ∨ i = 2 ∨ i = 3 ∨ i = 4 ∨ i = 5 ∨ i = 6 ∨ i = 7 ∨ i = 8 ∨ i = 9 ∨ i = 10 ∨ i = 11 ∨ i = 12 by omega) with rfl | rfl | rfl | rfl | rfl | rfl | rfl | rfl | rfl | rfl | rfl | rfl | rfl
    · exact hs _ (List.mem_of_getElem? (i := 1031) (by decide +kernel))
    · exact hs _ (List.mem_of_getElem? (i := 1036) (by decide +kernel))
    · exact hs _ (List.mem_of_getElem? (i := 1041) (by decide +kernel))
    · exact hs _ (List.mem_of_getElem? (i := 1046) (by decide +kernel))
    · exact hs _ (List.mem_of_getElem? (i := 1051) (by decide +kernel))
    · exact hs _ (List.mem_of_getElem? (i := 1056) (by decide +kernel))
    · exact hs _ (List.mem_of_getElem? (i := 1061) (by decide +kernel))
    · exact hs _ (List.mem_of_getElem? (i := 1065) (by decide +kernel))
    · exact hs _ (List.mem_of_getElem? (i := 1070) (by decide +kernel))
    · exact hs _ (List.mem_of_getElem? (i := 1075) (by decide +kernel))
    · exact hs _ (List.mem_of_getElem? (i := 1080) (by decide +kernel))
    · exact hs _ (List.mem_of_getElem? (i := 1085) (by decide +kernel))
    · exact hs _ (List.mem_of_getElem? (i := 1090) (by decide +kernel)))
  have hle : ∀ i : Nat, i < 13 → (Cond.eq (.length (kwVm i)) (.int (Int32.ofNat (kwL.getD i 0)))).before args s = true := (fun i hi => by
    rcases (show i = 0 ∨ i = 1 ∨ i = 2 ∨ i = 3 ∨ i = 4 ∨ i = 5 ∨ i = 6 ∨ i = 7 ∨ i = 8 ∨ i = 9 ∨ i = 10 ∨ i = 11 ∨ i = 12 by omega) with rfl | rfl | rfl | rfl | rfl | rfl | rfl | rfl | rfl | rfl | rfl | rfl | rfl
    · exact hs _ (List.mem_of_getElem? (i := 1034) (by decide +kernel))
    · exact hs _ (List.mem_of_getElem? (i := 1039) (by decide +kernel))
    · exact hs _ (List.mem_of_getElem? (i := 1044) (by decide +kernel))
    · exact hs _ (List.mem_of_getElem? (i := 1049) (by decide +kernel))
    · exact hs _ (List.mem_of_getElem? (i := 1054) (by decide +kernel))
    · exact hs _ (List.mem_of_getElem? (i := 1059) (by decide +kernel))
    · exact hs _ (List.mem_of_getElem? (i := 1064) (by decide +kernel))
    · exact hs _ (List.mem_of_getElem? (i := 1068) (by decide +kernel))
    · exact hs _ (List.mem_of_getElem? (i := 1073) (by decide +kernel))
    · exact hs _ (List.mem_of_getElem? (i := 1078) (by decide +kernel))
    · exact hs _ (List.mem_of_getElem? (i := 1083) (by decide +kernel))
    · exact hs _ (List.mem_of_getElem? (i := 1088) (by decide +kernel))
    · exact hs _ (List.mem_of_getElem? (i := 1093) (by decide +kernel)))
  have hev : ∀ i : Nat, i < 13 → ∃ a, (kwTm i).eval args s none [] s = some (.ref a) := fun i hi => by
    obtain ⟨a, -, -, -, e, -⟩ := Cond.exactly_spec (args := args) (first := s) (o := none) (s := s) (idx := []) (t := kwTm i) (cls := "java/lang/String") (hex i hi)
    exact ⟨a, e⟩
  have hap : ∀ i j : Nat, i < 13 → j < 13 → i ≠ j → (Cond.not (Cond.eq (kwTm i) (kwTm j))).before args s = true ∨ (Cond.not (Cond.eq (kwTm j) (kwTm i))).before args s = true := fun i j hi hj hij => by
    obtain ⟨a, ea⟩ := hev i hi
    obtain ⟨b, eb⟩ := hev j hj
    refine Or.inl (st_ne ea eb (fun e => ?_))
    subst e
    have hv : (kwVm i).eval args s none [] s = (kwVm j).eval args s none [] s := (va_fe ea).trans (va_fe eb).symm
    have hl : Int32.ofNat (kwL.getD i 0) = Int32.ofNat (kwL.getD j 0) := by
      have e1 := va_eqt (hle i hi)
      have e2 := va_eqt (hle j hj)
      rw [st_lnc hv, e2] at e1
      have e3 := Option.some.inj e1
      injection e3 with e4
      exact e4.symm
    have hb : 0 < kwL.getD i 0 → 0 < kwL.getD j 0 → (kwB.getD i []).getD 0 0 = (kwB.getD j []).getD 0 0 := fun h1 h2 => by
      have e1 := va_eqt (kw_el hs i hi 0 h1)
      have e2 := va_eqt (kw_el hs j hj 0 h2)
      rw [st_elc hv, e2] at e1
      have e3 := Option.some.inj e1
      injection e3 with e4
      exact e4.symm
    exact kw_df ⟨i, hi⟩ ⟨j, hj⟩ (fun z => hij (congrArg Fin.val z)) ⟨hl, hb⟩
  exact vk_Sof (tm := kwTm) (by decide) hex (fun i hi => by
    rcases (show i = 0 ∨ i = 1 ∨ i = 2 ∨ i = 3 ∨ i = 4 ∨ i = 5 ∨ i = 6 ∨ i = 7 ∨ i = 8 ∨ i = 9 ∨ i = 10 ∨ i = 11 ∨ i = 12 by omega) with rfl | rfl | rfl | rfl | rfl | rfl | rfl | rfl | rfl | rfl | rfl | rfl | rfl
    · exact hs _ (List.mem_of_getElem? (i := 1032) (by decide +kernel))
    · exact hs _ (List.mem_of_getElem? (i := 1037) (by decide +kernel))
    · exact hs _ (List.mem_of_getElem? (i := 1042) (by decide +kernel))
    · exact hs _ (List.mem_of_getElem? (i := 1047) (by decide +kernel))
    · exact hs _ (List.mem_of_getElem? (i := 1052) (by decide +kernel))
    · exact hs _ (List.mem_of_getElem? (i := 1057) (by decide +kernel))
    · exact hs _ (List.mem_of_getElem? (i := 1062) (by decide +kernel))
    · exact hs _ (List.mem_of_getElem? (i := 1066) (by decide +kernel))
    · exact hs _ (List.mem_of_getElem? (i := 1071) (by decide +kernel))
    · exact hs _ (List.mem_of_getElem? (i := 1076) (by decide +kernel))
    · exact hs _ (List.mem_of_getElem? (i := 1081) (by decide +kernel))
    · exact hs _ (List.mem_of_getElem? (i := 1086) (by decide +kernel))
    · exact hs _ (List.mem_of_getElem? (i := 1091) (by decide +kernel))) (fun i hi => by
    rcases (show i = 0 ∨ i = 1 ∨ i = 2 ∨ i = 3 ∨ i = 4 ∨ i = 5 ∨ i = 6 ∨ i = 7 ∨ i = 8 ∨ i = 9 ∨ i = 10 ∨ i = 11 ∨ i = 12 by omega) with rfl | rfl | rfl | rfl | rfl | rfl | rfl | rfl | rfl | rfl | rfl | rfl | rfl
    · exact hs _ (List.mem_of_getElem? (i := 1033) (by decide +kernel))
    · exact hs _ (List.mem_of_getElem? (i := 1038) (by decide +kernel))
    · exact hs _ (List.mem_of_getElem? (i := 1043) (by decide +kernel))
    · exact hs _ (List.mem_of_getElem? (i := 1048) (by decide +kernel))
    · exact hs _ (List.mem_of_getElem? (i := 1053) (by decide +kernel))
    · exact hs _ (List.mem_of_getElem? (i := 1058) (by decide +kernel))
    · exact hs _ (List.mem_of_getElem? (i := 1063) (by decide +kernel))
    · exact hs _ (List.mem_of_getElem? (i := 1067) (by decide +kernel))
    · exact hs _ (List.mem_of_getElem? (i := 1072) (by decide +kernel))
    · exact hs _ (List.mem_of_getElem? (i := 1077) (by decide +kernel))
    · exact hs _ (List.mem_of_getElem? (i := 1082) (by decide +kernel))
    · exact hs _ (List.mem_of_getElem? (i := 1087) (by decide +kernel))
    · exact hs _ (List.mem_of_getElem? (i := 1092) (by decide +kernel))) hle (kw_el hs) hap hA
