/-! the script's numbers -/
section SCR
variable {p : Program} {l : Launch} {e : Env} {R : Room} {s : State} {m : MethodId} {args : Array Value} {below : List Frame} {meth : Method} {c : Code} {Q : State → Prop} {nL : Nat} {H : Heap} {locs : List Loc} {k n : Nat} {pc : Nat} {L L' : List (Nat × Value)} {st : List Value} {cc : ByteArray} {own : String} {E : Nat → Nat → Nat}
theorem v_slen (X : CF p m c cc nL s args own) (hC : Cx E s H) (hdg : decode cc pc = .ok (.arraylength, 1)) (pc' : Nat) (hp : pc + 1 = pc') (kk : V p l e R s m args below meth c Q nL H locs k n pc' L (.int (zI (E 107 1 : Int)) :: st)) : V p l e R s m args below meth c Q nL H locs k n pc L (.ref (E 107 0) :: st) := by
  subst hp
  intro ls hl
  obtain ⟨cell, h1, h2, h3, h4, h5, h6, h7⟩ := hC.2.2.2.2.2.2.2.2.1
  exact W.alen X.1 X.2.1 h1 h2 (h5.trans (zI_nat _)) rfl rfl hdg (kk ls hl)
theorem v_sld {i : Int} (X : CF p m c cc nL s args own) (hC : Cx E s H) (h0 : 0 ≤ i) (h1 : i < (E 107 1 : Int)) (hdg : decode cc pc = .ok (.iaload, 1)) (pc' : Nat) (hp : pc + 1 = pc') (kk : V p l e R s m args below meth c Q nL H locs k n pc' L (.int (zI (E 108 (Int.toNat i) : Int)) :: st)) : V p l e R s m args below meth c Q nL H locs k n pc L (.int (zI i) :: .ref (E 107 0) :: st) := by
  subst hp
  intro ls hl
  obtain ⟨⟨cell, g1, g2, g3, g4, g5, g6, g7⟩, g8⟩ := hC.2.2.2.2.2.2.2.2
  have hz : (zI i).toNatClampNeg = i.toNat := zI_clamp h0 (by omega)
  refine W.iald (v := .int (zI (E 108 (Int.toNat i) : Int))) X.1 X.2.1 g1 g2 g3 ?_ (by rw [hz]; exact g6 _ (by omega)) rfl rfl hdg (kk ls hl)
  intro q0
  rcases q0 with q0 | q0
  · rw [show (0 : Int32) = zI 0 from rfl, zI_lt (by omega) (by omega)] at q0
    omega
  · rw [hz] at q0
    omega
def us3 (a : Int) : Int := (((zI a).toUInt32 >>> ((zI 3).toUInt32 &&& Int32.toUInt32 31)).toInt32).toInt
theorem us3_b (a : Int) : 0 ≤ us3 a ∧ us3 a < 536870912 := by
  unfold us3
  have e3 : ((zI 3).toUInt32 &&& Int32.toUInt32 31) = 3 := by decide
  rw [e3]
  have h : ((zI a).toUInt32 >>> (3 : UInt32)).toNat < 536870912 := by
    rw [UInt32.toNat_shiftRight]
    have := (zI a).toUInt32.toNat_lt
    show (zI a).toUInt32.toNat >>> 3 < _
    rw [Nat.shiftRight_eq_div_pow]
    omega
  have e : (((zI a).toUInt32 >>> (3 : UInt32)).toInt32).toInt = (((zI a).toUInt32 >>> (3 : UInt32)).toNat : Int) := by
    show ((zI a).toUInt32 >>> (3 : UInt32)).toBitVec.toInt = _
    exact BitVec.toInt_eq_toNat_of_lt (by show 2 * ((zI a).toUInt32 >>> (3 : UInt32)).toNat < 2 ^ 32; omega)
  omega
theorem v_iushr3 {a : Int} (X : CF p m c cc nL s args own) (hdg : decode cc pc = .ok (.iushr, 1)) (pc' : Nat) (hp : pc + 1 = pc') (kk : V p l e R s m args below meth c Q nL H locs k n pc' L (.int (zI (us3 a)) :: st)) : V p l e R s m args below meth c Q nL H locs k n pc L (.int (zI 3) :: .int (zI a) :: st) := by
  subst hp
  refine fun ls hl => lv_iushr X.1 X.2.1 hdg rfl ?_
  have g := kk ls hl
  unfold us3 at g
  rw [zI_asI] at g
  exact g
theorem zI_rem {x n : Int} (h0 : 0 ≤ x) (h1 : x < 2147483648) (n0 : 0 < n) (n1 : n < 2147483648) : zI x - zI x / zI n * zI n = zI (x % n) := by
  have ed : zI x / zI n = zI (x / n) := by
    refine Int32.toInt_inj.mp ?_
    have hx := Int.ediv_le_self n h0
    have hx0 := Int.ediv_nonneg h0 (by omega : 0 ≤ n)
    rw [Int32.toInt_div_of_ne_right _ _ (fun q => by
      have := congrArg Int32.toInt q
      rw [zI_toInt (by omega)] at this
      rw [show (-1 : Int32).toInt = -1 from by decide] at this
      omega), zI_toInt (by omega), zI_toInt (by omega), zI_toInt (by omega), Int.tdiv_eq_ediv_of_nonneg h0]
  rw [ed, zI_mul, zI_sub, Int.emod_def, Int.mul_comm]
theorem v_irem {x n' : Int} (X : CF p m c cc nL s args own) (h0 : 0 ≤ x) (h1 : x < 2147483648) (n0 : 0 < n') (n1 : n' < 2147483648) (hdg : decode cc pc = .ok (.irem, 1)) (pc' : Nat) (hp : pc + 1 = pc') (kk : V p l e R s m args below meth c Q nL H locs k n pc' L (.int (zI (x % n')) :: st)) : V p l e R s m args below meth c Q nL H locs k n pc L (.int (zI n') :: .int (zI x) :: st) := by
  subst hp
  refine fun ls hl => lv_irem X.1 X.2.1 hdg (fun q => ?_) (by rw [zI_rem h0 h1 n0 n1]; exact kk ls hl)
  have := congrArg Int32.toInt q
  rw [zI_toInt (by omega)] at this
  rw [show (0 : Int32).toInt = 0 from by decide] at this
  omega
end SCR
def clZ (E : Nat → Nat → Nat) (k : Int) : Int := if k < (E 107 1 : Int) then (E 108 (Int.toNat k) : Int) else 7919 * k + 12
set_option maxHeartbeats 4000000 in
set_option maxRecDepth 20000 in
theorem c_L_cell (l : Launch) (E : Nat → Nat → Nat) (k : Int) (k0 : 0 ≤ k) (k1 : k < 1000) : Rd l yL_cell cL_cell 2 (some .int) 0 E [.ref (E 107 0), .int (zI k)] ([]) (some (.int (zI (clZ E k)))) := by
  refine Rd.start (own := RL) rfl (by decide +kernel) (Nat.le_of_ble_eq_true rfl) ?_
  intro p e s m below meth cd args Q hQ X hr hlk hC hP
  have hL := hC.2.2.2.2.2.2.2.2.2
  refine v_iload_n X dL_cell_0 1 rfl 1 rfl ?_
  refine v_aload_n X dL_cell_1 2 rfl 0 rfl ?_
  refine v_slen X hC dL_cell_2 3 rfl ?_
  refine v_icmp_ge X (by omega) (by omega) dL_cell_3 6 12 rfl (by decide) (fun c_1 => ?_) (fun c_1 => ?_)
  · skip
    refine v_sipush X dL_cell_12 15 rfl rfl ?_
    refine v_iload_n X dL_cell_15 16 rfl 1 rfl ?_
    refine v_imul X dL_cell_16 17 rfl ?_
    refine v_bipush X dL_cell_17 19 rfl rfl ?_
    refine v_iadd X dL_cell_19 20 rfl ?_
    subst hQ; exact v_iret0 X hr hlk dL_cell_20 (by first | exact (if_pos (by assumption)).symm | exact (if_neg (by omega)).symm | exact if_pos (by assumption) | exact if_neg (by omega))
  · skip
    refine v_aload_n X dL_cell_6 7 rfl 0 rfl ?_
    refine v_iload_n X dL_cell_7 8 rfl 1 rfl ?_
    refine v_sld X hC (by omega) (by omega) dL_cell_8 9 rfl ?_
    refine v_goto X dL_cell_9 20 (by decide) ?_
    subst hQ; exact v_iret0 X hr hlk dL_cell_20 (by first | exact (if_pos (by assumption)).symm | exact (if_neg (by omega)).symm | exact if_pos (by assumption) | exact if_neg (by omega))
set_option maxHeartbeats 4000000 in
set_option maxRecDepth 20000 in
theorem c_L_some (l : Launch) (E : Nat → Nat → Nat) (k : Int) (n : Int) (k0 : 0 ≤ k) (k1 : k < 1000) (n0 : 0 < n) (n1 : n < 1000) : Mu l yL_some cL_some 3 (some .int) 1 0 0 E [] [.ref (E 107 0), .int (zI k), .int (zI n)] (fun H => True) (fun rv H => ∃ r : Int, rv = some (.int (zI r)) ∧ (0 ≤ r ∧ r < n)) := by
  refine Mu.start (own := RL) rfl (by decide +kernel) (Nat.le_of_ble_eq_true rfl) ?_
  intro p e s m below meth cd args Q hQ X hr hlk hnm hM hPr
  refine v_aload_n X dL_some_0 1 rfl 0 rfl ?_
  refine v_iload_n X dL_some_1 2 rfl 1 rfl ?_
  refine v_rdS X hM.C (ws0 E s.heap) (c_L_cell l E k k0 k1) kvL_cell ksL_cell kl_L_7 (As := [.ref (E 107 0), .int (zI k)]) rfl rfl rfl dL_some_2 5 rfl ?_
  show V p l e (rmL 1 0 0) s m args below meth cd Q 3 s.heap [] 0 0 5 [(0, .ref (E 107 0)), (1, .int (zI k)), (2, .int (zI n))] [.int (zI (clZ E k))]
  refine v_iconst X dL_some_5 6 rfl ?_
  refine v_iushr3 X dL_some_6 7 rfl ?_
  have hu_1 := us3_b (clZ E k)
  refine v_iload_n X dL_some_7 8 rfl 2 rfl ?_
  refine v_irem X (by omega) (by omega) (by omega) (by omega) dL_some_8 9 rfl ?_
  subst hQ; exact m_iret X hr hlk hM dL_some_9 rfl ⟨((us3 (clZ E k)) % n), rfl, (by exact ⟨Int.emod_nonneg _ (by omega), Int.emod_lt_of_pos _ (by omega)⟩)⟩
