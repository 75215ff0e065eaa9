theorem ftX0 : FT RX0 TX0 17 tyX0 := ⟨inX0, tyX0_ok, nmX0⟩
theorem ftX1 : FT RX1 TX1 2 tyX1 := ⟨inX1, tyX1_ok, nmX1⟩
theorem ftX3 : FT RX3 TX3 1 tyX3 := ⟨inX3, tyX3_ok, nmX3⟩
theorem ftX4 : FT RX4 TX4 3 tyX4 := ⟨inX4, tyX4_ok, nmX4⟩
theorem ftX5 : FT RX5 TX5 8 tyX5 := ⟨inX5, tyX5_ok, nmX5⟩
theorem ftX6 : FT RX6 TX6 1 tyX6 := ⟨inX6, tyX6_ok, nmX6⟩
theorem ftX7 : FT RX7 TX7 3 tyX7 := ⟨inX7, tyX7_ok, nmX7⟩
theorem ftX9 : FT RX9 TX9 12 tyX9 := ⟨inX9, tyX9_ok, nmX9⟩
theorem ftJ4 : FT RJ4 TJ4 4 tyJ4 := ⟨inJ4, tyJ4_ok, nmJ4⟩
def fsX0 : List Value := [.int 0, .int 0, .int 0, .int 0, .null, .null, .null, .null, .null, .null, .null, .null, .null, .null, .null, .null, .null]
theorem dfX0 : ∀ j, j < 17 → defaultValue (tyX0 j) = vp_V fsX0 j := by
  intro j hj
  rcases (show j = 0 ∨ j = 1 ∨ j = 2 ∨ j = 3 ∨ j = 4 ∨ j = 5 ∨ j = 6 ∨ j = 7 ∨ j = 8 ∨ j = 9 ∨ j = 10 ∨ j = 11 ∨ j = 12 ∨ j = 13 ∨ j = 14 ∨ j = 15 ∨ j = 16 by omega) with rfl | rfl | rfl | rfl | rfl | rfl | rfl | rfl | rfl | rfl | rfl | rfl | rfl | rfl | rfl | rfl | rfl <;> rfl
def fsX1 : List Value := [.null, .int 0]
theorem dfX1 : ∀ j, j < 2 → defaultValue (tyX1 j) = vp_V fsX1 j := by
  intro j hj
  rcases (show j = 0 ∨ j = 1 by omega) with rfl | rfl <;> rfl
def fsX3 : List Value := [.null]
theorem dfX3 : ∀ j, j < 1 → defaultValue (tyX3 j) = vp_V fsX3 j := by
  intro j hj
  rcases (show j = 0 by omega) with rfl <;> rfl
def fsX4 : List Value := [.null, .int 0, .int 0]
theorem dfX4 : ∀ j, j < 3 → defaultValue (tyX4 j) = vp_V fsX4 j := by
  intro j hj
  rcases (show j = 0 ∨ j = 1 ∨ j = 2 by omega) with rfl | rfl | rfl <;> rfl
def fsX5 : List Value := [.null, .int 0, .int 0, .null, .null, .null, .null, .null]
theorem dfX5 : ∀ j, j < 8 → defaultValue (tyX5 j) = vp_V fsX5 j := by
  intro j hj
  rcases (show j = 0 ∨ j = 1 ∨ j = 2 ∨ j = 3 ∨ j = 4 ∨ j = 5 ∨ j = 6 ∨ j = 7 by omega) with rfl | rfl | rfl | rfl | rfl | rfl | rfl | rfl <;> rfl
def fsX6 : List Value := [.null]
theorem dfX6 : ∀ j, j < 1 → defaultValue (tyX6 j) = vp_V fsX6 j := by
  intro j hj
  rcases (show j = 0 by omega) with rfl <;> rfl
def fsX7 : List Value := [.null, .null, .int 0]
theorem dfX7 : ∀ j, j < 3 → defaultValue (tyX7 j) = vp_V fsX7 j := by
  intro j hj
  rcases (show j = 0 ∨ j = 1 ∨ j = 2 by omega) with rfl | rfl | rfl <;> rfl
def fsX9 : List Value := [.null, .null, .null, .null, .null, .null, .null, .null, .int 0, .int 0, .int 0, .int 0]
theorem dfX9 : ∀ j, j < 12 → defaultValue (tyX9 j) = vp_V fsX9 j := by
  intro j hj
  rcases (show j = 0 ∨ j = 1 ∨ j = 2 ∨ j = 3 ∨ j = 4 ∨ j = 5 ∨ j = 6 ∨ j = 7 ∨ j = 8 ∨ j = 9 ∨ j = 10 ∨ j = 11 by omega) with rfl | rfl | rfl | rfl | rfl | rfl | rfl | rfl | rfl | rfl | rfl | rfl <;> rfl
def fsJ4 : List Value := [.null, .int 0, .int 0, .int 0]
theorem dfJ4 : ∀ j, j < 4 → defaultValue (tyJ4 j) = vp_V fsJ4 j := by
  intro j hj
  rcases (show j = 0 ∨ j = 1 ∨ j = 2 ∨ j = 3 by omega) with rfl | rfl | rfl | rfl <;> rfl
theorem karr_int : Cond.arrayClass .int ∈ WA := WA_of (i := 90) (by decide +kernel) (by decide +kernel)
theorem karr_byte : Cond.arrayClass .byte ∈ WA := WA_of (i := 264) (by decide +kernel) (by decide +kernel)
section MM
variable {p : Program} {l : Launch} {e : Env} {R : Room} {s : State} {m : MethodId} {args : Array Value} {below : List Frame} {meth : Method} {c : Code} {Q : State → Prop} {nL : Nat} {H : Heap} {locs : List Loc} {k n : Nat} {pc : Nat} {L L' : List (Nat × Value)} {st : List Value} {cc : ByteArray} {own : String}
theorem v_mmin {idx : Nat} {x y : Int} (X : CF p m c cc nL s args own) (hx : Rg x) (hy : Rg y) (hl : Cond.methodLink own idx yJ9_min_7cf53 ∈ WA) (hdg : decode cc pc = .ok (.invokestatic idx, 3)) (pc' : Nat) (hp : pc + 3 = pc') (hR : (Nat.ble 1 R.frames && Nat.ble 30 R.locals && Nat.ble (st.map fun v => v.category).sum 8 && Nat.ble k R.cells && Nat.ble n R.slots) = true) (kk : V p l e R s m args below meth c Q nL H locs k n pc' L (.int (zI (min x y)) :: st)) : V p l e R s m args below meth c Q nL H locs k n pc L (.int (zI y) :: .int (zI x) :: st) := by
  subst hp
  simp only [Bool.and_eq_true] at hR
  have r1 := Nat.le_of_ble_eq_true hR.1.1.1.1
  have r2 := Nat.le_of_ble_eq_true hR.1.1.1.2
  have r3 := Nat.le_of_ble_eq_true hR.1.1.2
  have r4 := Nat.le_of_ble_eq_true hR.1.2
  have r5 := Nat.le_of_ble_eq_true hR.2
  intro ls hls
  refine va_mmin X.1 X.2.1 (by rw [X.2.2.1]; exact hls.1.symm) X.2.2.2.1 (X.2.2.2.2 _ hl) (X.2.2.2.2 _ ksJ9_min_7cf53) (X.2.2.2.2 _ kvJ9_min_7cf53.2.1) (X.2.2.2.2 _ kvJ9_min_7cf53.1) r1 (by omega) r4 r5 hdg ?_
  rw [zI_min hx hy]
  exact kk ls hls
theorem v_mmax {idx : Nat} {x y : Int} (X : CF p m c cc nL s args own) (hx : Rg x) (hy : Rg y) (hl : Cond.methodLink own idx yJ9_max_7cf53 ∈ WA) (hdg : decode cc pc = .ok (.invokestatic idx, 3)) (pc' : Nat) (hp : pc + 3 = pc') (hR : (Nat.ble 1 R.frames && Nat.ble 30 R.locals && Nat.ble (st.map fun v => v.category).sum 8 && Nat.ble k R.cells && Nat.ble n R.slots) = true) (kk : V p l e R s m args below meth c Q nL H locs k n pc' L (.int (zI (max x y)) :: st)) : V p l e R s m args below meth c Q nL H locs k n pc L (.int (zI y) :: .int (zI x) :: st) := by
  subst hp
  simp only [Bool.and_eq_true] at hR
  have r1 := Nat.le_of_ble_eq_true hR.1.1.1.1
  have r2 := Nat.le_of_ble_eq_true hR.1.1.1.2
  have r3 := Nat.le_of_ble_eq_true hR.1.1.2
  have r4 := Nat.le_of_ble_eq_true hR.1.2
  have r5 := Nat.le_of_ble_eq_true hR.2
  intro ls hls
  refine va_mmax X.1 X.2.1 (by rw [X.2.2.1]; exact hls.1.symm) X.2.2.2.1 (X.2.2.2.2 _ hl) (X.2.2.2.2 _ ksJ9_max_7cf53) (X.2.2.2.2 _ kvJ9_max_7cf53.2.1) (X.2.2.2.2 _ kvJ9_max_7cf53.1) r1 (by omega) r4 r5 hdg ?_
  rw [zI_max hx hy]
  exact kk ls hls
end MM
