/-! the script's numbers -/
section SCR
variable {p : Program} {l : Launch} {e : Env} {R : Room} {s : State} {m : MethodId} {args : Array Value} {below : List Frame} {meth : Method} {c : Code} {Q : State → Prop} {nL : Nat} {H : Heap} {locs : List Loc} {k n : Nat} {pc : Nat} {L L' : List (Nat × Value)} {st : List Value} {cc : ByteArray} {own : String} {E : Nat → Nat → Nat}
theorem v_slen (X : CF p m c cc nL s args own) (hC : Cx E s H) (hdg : decode cc pc = .ok (.arraylength, 1)) (pc' : Nat) (hp : pc + 1 = pc') (kk : V p l e R s m args below meth c Q nL H locs k n pc' L (.int (zI (E 107 1 : Int)) :: st)) : V p l e R s m args below meth c Q nL H locs k n pc L (.ref (E 107 0) :: st) := by
  subst hp
  intro ls hl
  obtain ⟨cell, h1, h2, h3, h4, h5, h6, h7⟩ := hC.2.2.2.2.2.2.2.2.1
  exact W.alen X.1 X.2.1 h1 h2 (h5.trans (zI_nat _)) rfl rfl hdg (kk ls hl)
theorem v_sld {i : Int} (X : CF p m c cc nL s args own) (hC : Cx E s H) (h0 : 0 ≤ i) (h1 : i < (E 107 1 : Int)) (hdg : decode cc pc = .ok (.iaload, 1)) (pc' : Nat) (hp : pc + 1 = pc') (kk : V p l e R s m args below meth c Q nL H locs k n pc' L (.int (zI (E 108 (Int.toNat i) : Int)) :: st)) : V p l e R s m args below meth c Q nL H locs k n pc L (.int (zI i) :: .ref (E 107 0) :: st) := by
  subst hp
  intro ls hl
  obtain ⟨⟨cell, g1, g2, g3, g4, g5, g6, g7⟩, g8⟩ := hC.2.2.2.2.2.2.2.2
  have hz : (zI i).toNatClampNeg = i.toNat := zI_clamp h0 (by omega)
  refine W.iald (v := .int (zI (E 108 (Int.toNat i) : Int))) X.1 X.2.1 g1 g2 g3 ?_ (by rw [hz]; exact g6 _ (by omega)) rfl rfl hdg (kk ls hl)
  intro q0
  rcases q0 with q0 | q0
  · rw [show (0 : Int32) = zI 0 from rfl, zI_lt (by omega) (by omega)] at q0
    omega
  · rw [hz] at q0
    omega
def us3 (a : Int) : Int := (((zI a).toUInt32 >>> ((zI 3).toUInt32 &&& Int32.toUInt32 31)).toInt32).toInt
theorem us3_b (a : Int) : 0 ≤ us3 a ∧ us3 a < 536870912 := by
  unfold us3
  have e3 : ((zI 3).toUInt32 &&& Int32.toUInt32 31) = 3 := by decide
  rw [e3]
  have h : ((zI a).toUInt32 >>> (3 : UInt32)).toNat < 536870912 := by
    rw [UInt32.toNat_shiftRight]
    have := (zI a).toUInt32.toNat_lt
    show (zI a).toUInt32.toNat >>> 3 < _
    rw [Nat.shiftRight_eq_div_pow]
    omega
  have e : (((zI a).toUInt32 >>> (3 : UInt32)).toInt32).toInt = (((zI a).toUInt32 >>> (3 : UInt32)).toNat : Int) := by
    show ((zI a).toUInt32 >>> (3 : UInt32)).toBitVec.toInt = _
    exact BitVec.toInt_eq_toNat_of_lt (by show 2 * ((zI a).toUInt32 >>> (3 : UInt32)).toNat < 2 ^ 32; omega)
  omega
theorem v_iushr3 {a : Int} (X : CF p m c cc nL s args own) (hdg : decode cc pc = .ok (.iushr, 1)) (pc' : Nat) (hp : pc + 1 = pc') (kk : V p l e R s m args below meth c Q nL H locs k n pc' L (.int (zI (us3 a)) :: st)) : V p l e R s m args below meth c Q nL H locs k n pc L (.int (zI 3) :: .int (zI a) :: st) := by
  subst hp
  refine fun ls hl => lv_iushr X.1 X.2.1 hdg rfl ?_
  have g := kk ls hl
  unfold us3 at g
  rw [zI_asI] at g
  exact g
theorem zI_rem {x n : Int} (h0 : 0 ≤ x) (h1 : x < 2147483648) (n0 : 0 < n) (n1 : n < 2147483648) : zI x - zI x / zI n * zI n = zI (x % n) := by
  have ed : zI x / zI n = zI (x / n) := by
    refine Int32.toInt_inj.mp ?_
    have hx := Int.ediv_le_self n h0
    have hx0 := Int.ediv_nonneg h0 (by omega : 0 ≤ n)
    rw [Int32.toInt_div_of_ne_right _ _ (fun q => by
      have := congrArg Int32.toInt q
      rw [zI_toInt (by omega)] at this
      rw [show (-1 : Int32).toInt = -1 from by decide] at this
      omega), zI_toInt (by omega), zI_toInt (by omega), zI_toInt (by omega), Int.tdiv_eq_ediv_of_nonneg h0]
  rw [ed, zI_mul, zI_sub, Int.emod_def, Int.mul_comm]
theorem v_irem {x n' : Int} (X : CF p m c cc nL s args own) (h0 : 0 ≤ x) (h1 : x < 2147483648) (n0 : 0 < n') (n1 : n' < 2147483648) (hdg : decode cc pc = .ok (.irem, 1)) (pc' : Nat) (hp : pc + 1 = pc') (kk : V p l e R s m args below meth c Q nL H locs k n pc' L (.int (zI (x % n')) :: st)) : V p l e R s m args below meth c Q nL H locs k n pc L (.int (zI n') :: .int (zI x) :: st) := by
  subst hp
  refine fun ls hl => lv_irem X.1 X.2.1 hdg (fun q => ?_) (by rw [zI_rem h0 h1 n0 n1]; exact kk ls hl)
  have := congrArg Int32.toInt q
  rw [zI_toInt (by omega)] at this
  rw [show (0 : Int32).toInt = 0 from by decide] at this
  omega
end SCR
def clZ (E : Nat → Nat → Nat) (k : Int) : Int := if k < (E 107 1 : Int) then (E 108 (Int.toNat k) : Int) else 7919 * k + 12
set_option maxHeartbeats 4000000 in
set_option maxRecDepth 20000 in
theorem c_L_cell (l : Launch) (E : Nat → Nat → Nat) (k : Int) (k0 : 0 ≤ k) (k1 : k < 1000) : Rd l yL_cell cL_cell 2 (some .int) 0 E [.ref (E 107 0), .int (zI k)] ([]) (some (.int (zI (clZ E k)))) := by
  refine Rd.start (own := RL) rfl (by decide +kernel) (Nat.le_of_ble_eq_true rfl) ?_
  intro p e s m below meth cd args Q hQ X hr hlk hC hP
  have hL := hC.2.2.2.2.2.2.2.2.2
  refine v_iload_n X dL_cell_0 1 rfl 1 rfl ?_
  refine v_aload_n X dL_cell_1 2 rfl 0 rfl ?_
  refine v_slen X hC dL_cell_2 3 rfl ?_
  refine v_icmp_ge X (by omega) (by omega) dL_cell_3 6 12 rfl (by decide) (fun c_1 => ?_) (fun c_1 => ?_)
  · skip
    refine v_sipush X dL_cell_12 15 rfl rfl ?_
    refine v_iload_n X dL_cell_15 16 rfl 1 rfl ?_
    refine v_imul X dL_cell_16 17 rfl ?_
    refine v_bipush X dL_cell_17 19 rfl rfl ?_
    refine v_iadd X dL_cell_19 20 rfl ?_
    subst hQ; exact v_iret0 X hr hlk dL_cell_20 (by first | exact (if_pos (by assumption)).symm | exact (if_neg (by omega)).symm | exact if_pos (by assumption) | exact if_neg (by omega))
  · skip
    refine v_aload_n X dL_cell_6 7 rfl 0 rfl ?_
    refine v_iload_n X dL_cell_7 8 rfl 1 rfl ?_
    refine v_sld X hC (by omega) (by omega) dL_cell_8 9 rfl ?_
    refine v_goto X dL_cell_9 20 (by decide) ?_
    subst hQ; exact v_iret0 X hr hlk dL_cell_20 (by first | exact (if_pos (by assumption)).symm | exact (if_neg (by omega)).symm | exact if_pos (by assumption) | exact if_neg (by omega))
set_option maxHeartbeats 4000000 in
set_option maxRecDepth 20000 in
theorem c_L_some (l : Launch) (E : Nat → Nat → Nat) (k : Int) (n : Int) (k0 : 0 ≤ k) (k1 : k < 1000) (n0 : 0 < n) (n1 : n < 1000) : Mu l yL_some cL_some 3 (some .int) 1 0 0 E [] [.ref (E 107 0), .int (zI k), .int (zI n)] (fun H => True) (fun rv H => ∃ r : Int, rv = some (.int (zI r)) ∧ (0 ≤ r ∧ r < n)) := by
  refine Mu.start (own := RL) rfl (by decide +kernel) (Nat.le_of_ble_eq_true rfl) ?_
  intro p e s m below meth cd args Q hQ X hr hlk hnm hM hPr
  refine v_aload_n X dL_some_0 1 rfl 0 rfl ?_
  refine v_iload_n X dL_some_1 2 rfl 1 rfl ?_
  refine v_rdS X hM.C (ws0 E s.heap) (c_L_cell l E k k0 k1) kvL_cell ksL_cell kl_L_7 (As := [.ref (E 107 0), .int (zI k)]) rfl rfl rfl dL_some_2 5 rfl ?_
  show V p l e (rmL 1 0 0) s m args below meth cd Q 3 s.heap [] 0 0 5 [(0, .ref (E 107 0)), (1, .int (zI k)), (2, .int (zI n))] [.int (zI (clZ E k))]
  refine v_iconst X dL_some_5 6 rfl ?_
  refine v_iushr3 X dL_some_6 7 rfl ?_
  have hu_1 := us3_b (clZ E k)
  refine v_iload_n X dL_some_7 8 rfl 2 rfl ?_
  refine v_irem X (by omega) (by omega) (by omega) (by omega) dL_some_8 9 rfl ?_
  subst hQ; exact m_iret X hr hlk hM dL_some_9 rfl ⟨((us3 (clZ E k)) % n), rfl, (by exact ⟨Int.emod_nonneg _ (by omega), Int.emod_lt_of_pos _ (by omega)⟩)⟩
theorem rm_L {Lv MC MS Lc my k mc n ms cs : Nat} (h1 : (Nat.ble (Lc + 1) Lv && Nat.ble (8 + (my + 11) + 60 * Lc) (60 * Lv) && Nat.ble cs 8) = true) (h2 : k + mc ≤ MC) (h3 : n + ms ≤ MS) : (Nat.ble (Lc + 1) (rmL Lv MC MS).frames && Nat.ble (8 + (my + 11) + 60 * Lc) (rmL Lv MC MS).locals && Nat.ble (k + mc) (rmL Lv MC MS).cells && Nat.ble (n + ms) (rmL Lv MC MS).slots && Nat.ble cs 8) = true := by
  simp only [Bool.and_eq_true] at h1 ⊢
  exact ⟨⟨⟨⟨h1.1.1, h1.1.2⟩, Nat.ble_eq_true_of_le h2⟩, Nat.ble_eq_true_of_le h3⟩, h1.2⟩
theorem rm_L0 {Lv MC MS Lc my k n cs : Nat} (h1 : (Nat.ble (Lc + 1) Lv && Nat.ble (8 + (my + 11) + 60 * Lc) (60 * Lv) && Nat.ble cs 8) = true) (h2 : k ≤ MC) (h3 : n ≤ MS) : (Nat.ble (Lc + 1) (rmL Lv MC MS).frames && Nat.ble (8 + (my + 11) + 60 * Lc) (rmL Lv MC MS).locals && Nat.ble k (rmL Lv MC MS).cells && Nat.ble n (rmL Lv MC MS).slots && Nat.ble cs 8) = true := rm_L (mc := 0) (ms := 0) h1 h2 h3
theorem rm_LW {Lv MC MS Lc my k mc n ms cs : Nat} (h1 : (Nat.ble (Lc + 1) Lv && Nat.ble (8 + (my + 11) + 60 * Lc) (60 * Lv) && Nat.ble cs 8) = true) (h2 : k + mc ≤ MC) (h3 : n + ms ≤ MS) : (Lc + 1 ≤ (rmL Lv MC MS).frames ∧ 8 + (my + 11) + 60 * Lc ≤ (rmL Lv MC MS).locals) ∧ (k + mc ≤ (rmL Lv MC MS).cells ∧ n + ms ≤ (rmL Lv MC MS).slots) ∧ cs ≤ 8 := by
  simp only [Bool.and_eq_true] at h1
  exact ⟨⟨Nat.le_of_ble_eq_true h1.1.1, Nat.le_of_ble_eq_true h1.1.2⟩, ⟨h2, h3⟩, Nat.le_of_ble_eq_true h1.2⟩
theorem kwL_witnessAt : Cond.codeWith yL_witnessAt cL_witnessAt 4 (some .int) [(0, 6, 7, 31), (0, 6, 12, 37)] ∈ WA ∧ Cond.initialized yL_witnessAt.cls ∈ WA ∧ (yL_witnessAt.cls ≠ "java/lang/invoke/MethodHandle" ∧ yL_witnessAt.cls ≠ "java/lang/invoke/VarHandle" ∧ (parseMethodDescriptor yL_witnessAt.desc).map (fun d => d.parameters.length) = some 3) := ⟨WA_of (i := 1170) (by decide +kernel) (by decide +kernel), WA_of (i := 32) (by decide +kernel) (by decide +kernel), by decide +kernel, by decide +kernel, by decide +kernel⟩
theorem kwL_mostCredible : Cond.codeWith yL_mostCredible cL_mostCredible 3 (some .int) [(0, 5, 6, 37)] ∈ WA ∧ Cond.initialized yL_mostCredible.cls ∈ WA ∧ (yL_mostCredible.cls ≠ "java/lang/invoke/MethodHandle" ∧ yL_mostCredible.cls ≠ "java/lang/invoke/VarHandle" ∧ (parseMethodDescriptor yL_mostCredible.desc).map (fun d => d.parameters.length) = some 2) := ⟨WA_of (i := 1177) (by decide +kernel) (by decide +kernel), WA_of (i := 32) (by decide +kernel) (by decide +kernel), by decide +kernel, by decide +kernel, by decide +kernel⟩
theorem kwL_heaviestWitness : Cond.codeWith yL_heaviestWitness cL_heaviestWitness 3 (some .int) [(0, 5, 6, 31), (0, 5, 11, 37)] ∈ WA ∧ Cond.initialized yL_heaviestWitness.cls ∈ WA ∧ (yL_heaviestWitness.cls ≠ "java/lang/invoke/MethodHandle" ∧ yL_heaviestWitness.cls ≠ "java/lang/invoke/VarHandle" ∧ (parseMethodDescriptor yL_heaviestWitness.desc).map (fun d => d.parameters.length) = some 2) := ⟨WA_of (i := 1180) (by decide +kernel) (by decide +kernel), WA_of (i := 32) (by decide +kernel) (by decide +kernel), by decide +kernel, by decide +kernel, by decide +kernel⟩
theorem kwL_nextToDecide : Cond.codeWith yL_nextToDecide cL_nextToDecide 2 (some .int) [(0, 4, 5, 37)] ∈ WA ∧ Cond.initialized yL_nextToDecide.cls ∈ WA ∧ (yL_nextToDecide.cls ≠ "java/lang/invoke/MethodHandle" ∧ yL_nextToDecide.cls ≠ "java/lang/invoke/VarHandle" ∧ (parseMethodDescriptor yL_nextToDecide.desc).map (fun d => d.parameters.length) = some 1) := ⟨WA_of (i := 1191) (by decide +kernel) (by decide +kernel), WA_of (i := 32) (by decide +kernel) (by decide +kernel), by decide +kernel, by decide +kernel, by decide +kernel⟩
theorem kwL_firmAnswersToGuilty : Cond.codeWith yL_firmAnswersToGuilty cL_firmAnswersToGuilty 4 (some .int) [(0, 6, 7, 31), (0, 6, 12, 37)] ∈ WA ∧ Cond.initialized yL_firmAnswersToGuilty.cls ∈ WA ∧ (yL_firmAnswersToGuilty.cls ≠ "java/lang/invoke/MethodHandle" ∧ yL_firmAnswersToGuilty.cls ≠ "java/lang/invoke/VarHandle" ∧ (parseMethodDescriptor yL_firmAnswersToGuilty.desc).map (fun d => d.parameters.length) = some 3) := ⟨WA_of (i := 1203) (by decide +kernel) (by decide +kernel), WA_of (i := 32) (by decide +kernel) (by decide +kernel), by decide +kernel, by decide +kernel, by decide +kernel⟩
theorem kwL_docketAt : Cond.codeWith yL_docketAt cL_docketAt 3 (some .int) [(0, 5, 6, 37)] ∈ WA ∧ Cond.initialized yL_docketAt.cls ∈ WA ∧ (yL_docketAt.cls ≠ "java/lang/invoke/MethodHandle" ∧ yL_docketAt.cls ≠ "java/lang/invoke/VarHandle" ∧ (parseMethodDescriptor yL_docketAt.desc).map (fun d => d.parameters.length) = some 2) := ⟨WA_of (i := 1215) (by decide +kernel) (by decide +kernel), WA_of (i := 32) (by decide +kernel) (by decide +kernel), by decide +kernel, by decide +kernel, by decide +kernel⟩
theorem kwL_docketPosition : Cond.codeWith yL_docketPosition cL_docketPosition 3 (some .int) [(0, 5, 6, 31), (0, 5, 11, 21)] ∈ WA ∧ Cond.initialized yL_docketPosition.cls ∈ WA ∧ (yL_docketPosition.cls ≠ "java/lang/invoke/MethodHandle" ∧ yL_docketPosition.cls ≠ "java/lang/invoke/VarHandle" ∧ (parseMethodDescriptor yL_docketPosition.desc).map (fun d => d.parameters.length) = some 2) := ⟨WA_of (i := 1218) (by decide +kernel) (by decide +kernel), WA_of (i := 32) (by decide +kernel) (by decide +kernel), by decide +kernel, by decide +kernel, by decide +kernel⟩
theorem kwL_verdict : Cond.codeWith yL_verdict cL_verdict 3 (some .int) [(0, 13, 14, 21)] ∈ WA ∧ Cond.initialized yL_verdict.cls ∈ WA ∧ (yL_verdict.cls ≠ "java/lang/invoke/MethodHandle" ∧ yL_verdict.cls ≠ "java/lang/invoke/VarHandle" ∧ (parseMethodDescriptor yL_verdict.desc).map (fun d => d.parameters.length) = some 2) := ⟨WA_of (i := 1222) (by decide +kernel) (by decide +kernel), WA_of (i := 32) (by decide +kernel) (by decide +kernel), by decide +kernel, by decide +kernel, by decide +kernel⟩
theorem kwL_addWitness : Cond.codeWith yL_addWitness cL_addWitness 3 (some .int) [(0, 5, 6, 19), (0, 5, 11, 21)] ∈ WA ∧ Cond.initialized yL_addWitness.cls ∈ WA ∧ (yL_addWitness.cls ≠ "java/lang/invoke/MethodHandle" ∧ yL_addWitness.cls ≠ "java/lang/invoke/VarHandle" ∧ (parseMethodDescriptor yL_addWitness.desc).map (fun d => d.parameters.length) = some 2) := ⟨WA_of (i := 1239) (by decide +kernel) (by decide +kernel), WA_of (i := 32) (by decide +kernel) (by decide +kernel), by decide +kernel, by decide +kernel, by decide +kernel⟩
theorem kwL_charge : Cond.codeWith yL_charge cL_charge 4 (some .int) [(0, 6, 7, 19), (0, 6, 12, 21)] ∈ WA ∧ Cond.initialized yL_charge.cls ∈ WA ∧ (yL_charge.cls ≠ "java/lang/invoke/MethodHandle" ∧ yL_charge.cls ≠ "java/lang/invoke/VarHandle" ∧ (parseMethodDescriptor yL_charge.desc).map (fun d => d.parameters.length) = some 3) := ⟨WA_of (i := 1377) (by decide +kernel) (by decide +kernel), WA_of (i := 32) (by decide +kernel) (by decide +kernel), by decide +kernel, by decide +kernel, by decide +kernel⟩
theorem kwL_testify : Cond.codeWith yL_testify cL_testify 6 (some .int) [(0, 9, 10, 31), (0, 9, 16, 19), (0, 9, 22, 21)] ∈ WA ∧ Cond.initialized yL_testify.cls ∈ WA ∧ (yL_testify.cls ≠ "java/lang/invoke/MethodHandle" ∧ yL_testify.cls ≠ "java/lang/invoke/VarHandle" ∧ (parseMethodDescriptor yL_testify.desc).map (fun d => d.parameters.length) = some 5) := ⟨WA_of (i := 1387) (by decide +kernel) (by decide +kernel), WA_of (i := 32) (by decide +kernel) (by decide +kernel), by decide +kernel, by decide +kernel, by decide +kernel⟩
theorem kwL_question : Cond.codeWith yL_question cL_question 5 (some .int) [(0, 7, 8, 31), (0, 7, 14, 37), (0, 7, 20, 21)] ∈ WA ∧ Cond.initialized yL_question.cls ∈ WA ∧ (yL_question.cls ≠ "java/lang/invoke/MethodHandle" ∧ yL_question.cls ≠ "java/lang/invoke/VarHandle" ∧ (parseMethodDescriptor yL_question.desc).map (fun d => d.parameters.length) = some 4) := ⟨WA_of (i := 1394) (by decide +kernel) (by decide +kernel), WA_of (i := 32) (by decide +kernel) (by decide +kernel), by decide +kernel, by decide +kernel, by decide +kernel⟩
theorem kwL_decide : Cond.codeWith yL_decide cL_decide 3 (some .int) [(0, 13, 14, 31), (0, 13, 19, 21)] ∈ WA ∧ Cond.initialized yL_decide.cls ∈ WA ∧ (yL_decide.cls ≠ "java/lang/invoke/MethodHandle" ∧ yL_decide.cls ≠ "java/lang/invoke/VarHandle" ∧ (parseMethodDescriptor yL_decide.desc).map (fun d => d.parameters.length) = some 2) := ⟨WA_of (i := 1401) (by decide +kernel) (by decide +kernel), WA_of (i := 32) (by decide +kernel) (by decide +kernel), by decide +kernel, by decide +kernel, by decide +kernel⟩
theorem kwL_appeal : Cond.codeWith yL_appeal cL_appeal 3 (some .int) [(0, 5, 6, 31), (0, 5, 11, 21)] ∈ WA ∧ Cond.initialized yL_appeal.cls ∈ WA ∧ (yL_appeal.cls ≠ "java/lang/invoke/MethodHandle" ∧ yL_appeal.cls ≠ "java/lang/invoke/VarHandle" ∧ (parseMethodDescriptor yL_appeal.desc).map (fun d => d.parameters.length) = some 2) := ⟨WA_of (i := 1408) (by decide +kernel) (by decide +kernel), WA_of (i := 32) (by decide +kernel) (by decide +kernel), by decide +kernel, by decide +kernel, by decide +kernel⟩
theorem kwL_close : Cond.codeWith yL_close cL_close 3 (some .int) [(0, 5, 6, 31), (0, 5, 11, 21)] ∈ WA ∧ Cond.initialized yL_close.cls ∈ WA ∧ (yL_close.cls ≠ "java/lang/invoke/MethodHandle" ∧ yL_close.cls ≠ "java/lang/invoke/VarHandle" ∧ (parseMethodDescriptor yL_close.desc).map (fun d => d.parameters.length) = some 2) := ⟨WA_of (i := 1415) (by decide +kernel) (by decide +kernel), WA_of (i := 32) (by decide +kernel) (by decide +kernel), by decide +kernel, by decide +kernel, by decide +kernel⟩
def AcI (co : Nat → Int → Int) (n : Int) : Prop := BaI co n ∧ (1 ≤ co 0 0 ∧ co 0 0 ≤ 9) ∧ (4 ≤ co 0 1 ∧ co 0 1 ≤ 7)
theorem AcI.wide {co : Nat → Int → Int} {n m : Int} (h : AcI co n) (hm : n ≤ m) : AcI co m := ⟨h.1.wide hm, h.2⟩
theorem ac_call {co co1 : Nat → Int → Int} {n : Int} (h : AcI co n) {kd a b f z : Int} (hkd : 0 ≤ kd ∧ kd ≤ 6) (hk0 : kd = 0 → co 0 0 < 9) (hk1 : kd = 1 → co 0 1 < 7) (hc : (¬ flC co kd a b z = 0 ∧ co1 = co) ∨ (flC co kd a b z = 0 ∧ co1 = opC co kd a b f z)) : AcI co1 (n + 1) := by
  obtain ⟨h1, h2, h3⟩ := ba_call h.1 hkd hc
  have h4 := h.2
  exact ⟨h1, by omega, by omega⟩
set_option maxHeartbeats 4000000 in
set_option maxRecDepth 20000 in
theorem c_L_acts (l : Launch) (hl : l.stackTraces = false) (E : Nat → Nat → Nat) (x : Nat) (co : Nat → Int → Int) (cnt : Int) (k : Int) (v : Nat) (T : List Int) (hA : AcI co cnt) (kk0 : 0 ≤ k) (kk1 : k < 200) : Mu l yL_acts cL_acts 7 none 12 1 6 E [(x + 1, 28), (x + 85, 2), (x + 87, 224), (x + 311, 3)] [.ref x, .ref (E 107 0), .int (zI k)] (fun H => PR E x [(x, .inr (11, [.ref (x + 1), .ref (x + 29), .ref (x + 57), .ref (x + 85), .ref (x + 311), .ref (x + 314), .ref (x + 319), .ref (x + 332), .int (zI 0), .int (zI (-1)), .int (zI (-1)), .int (zI 0)]))] H ∧ PR E (x + 1) (courtW E (x + 1) co) H ∧ HW E x H ∧ RW E x v T H) (fun rv H => ∃ co1 : Nat → Int → Int, rv = none ∧ AcI co1 (cnt + 1) ∧ PR E (x + 1) (courtW E (x + 1) co1) H ∧ HW E x H ∧ RW E x v T H) := by
  refine Mu.start (own := RL) rfl (by decide +kernel) (Nat.le_of_ble_eq_true rfl) ?_
  intro p e s m below meth cd args Q hQ X hr hlk hnm hM hPr
  obtain ⟨h_cm, h_co, h_hw, h_w⟩ := hPr
  have hO := hA.1.1.inv.ok
  have hcn := cnt_b (fun j => co 3 j = 0) (co 0 0).toNat
  have hac := hA.2
  have hvl := h_w.lt
  refine v_aload_n X dL_acts_0 1 rfl 1 rfl ?_
  refine v_iload_n X dL_acts_1 2 rfl 2 rfl ?_
  refine v_iconst X dL_acts_2 3 rfl ?_
  refine v_iadd X dL_acts_3 4 rfl ?_
  refine v_bipush X dL_acts_4 6 rfl rfl ?_
  refine v_muS X hM (c_L_some l E (k + 1) 60 (by omega) (by omega) (by omega) (by omega)) kvL_some ksL_some kl_L_74 (As := [.ref (E 107 0), .int (zI (k + 1)), .int (zI 60)]) rfl rfl (rm_L rfl (by omega) (by omega)) dL_acts_6 9 rfl (k' := 0) (n' := 0) rfl rfl (fun q hq => hq.elim) ⟨⟩ (fun rv H1 lo1 hM hF hpo => ?_)
  obtain ⟨r_2, rfl, hp_f_3⟩ := hpo
  replace h_cm := h_cm.kept hF 1 rfl (fun q _ _ h => h.elim)
  replace h_co := h_co.kept hF 28 rfl (fun q _ _ h => h.elim)
  replace h_hw := h_hw.kept hF (fun q _ _ h => h.elim)
  replace h_w := h_w.kept hF (fun q _ h => h.elim)
  show V p l e (rmL 12 1 6) s m args below meth cd Q 7 H1 lo1 0 0 9 [(0, .ref x), (1, .ref (E 107 0)), (2, .int (zI k))] [.int (zI r_2)]
  refine v_istore_n X dL_acts_9 10 rfl rfl (by decide) (L' := [(3, .int (zI r_2)), (0, .ref x), (1, .ref (E 107 0)), (2, .int (zI k))]) rfl ?_
  refine v_aload_n X dL_acts_10 11 rfl 2 rfl ?_
  refine v_iload_n X dL_acts_11 12 rfl 3 rfl ?_
  refine v_iconst X dL_acts_12 13 rfl ?_
  refine v_iadd X dL_acts_13 14 rfl ?_
  refine v_aload_n X dL_acts_14 15 rfl 1 rfl ?_
  refine v_rdV X hM.C (PW.app h_cm.1 h_co.1) (c_X9_caseCount l E x co 0 (-1) (-1) 0 hO) kvX9_caseCount kiX9_caseCount kl_L_88 rfl rfl (As := []) rfl rfl (rm_L0 rfl (by omega) (by omega)) dL_acts_15 18 rfl ?_
  show V p l e (rmL 12 1 6) s m args below meth cd Q 7 H1 lo1 0 0 18 [(3, .int (zI r_2)), (0, .ref x), (1, .ref (E 107 0)), (2, .int (zI k))] [.int (zI (co 0 0)), .int (zI (k + 2)), .ref (E 107 0)]
  refine v_muS X hM (c_L_some l E (k + 2) (co 0 0) (by omega) (by omega) (by omega) (by omega)) kvL_some ksL_some kl_L_74 (As := [.ref (E 107 0), .int (zI (k + 2)), .int (zI (co 0 0))]) rfl rfl (rm_L rfl (by omega) (by omega)) dL_acts_18 21 rfl (k' := 0) (n' := 0) rfl rfl (fun q hq => hq.elim) ⟨⟩ (fun rv H4 lo4 hM hF hpo => ?_)
  obtain ⟨r_5, rfl, hp_f_6⟩ := hpo
  replace h_cm := h_cm.kept hF 1 rfl (fun q _ _ h => h.elim)
  replace h_co := h_co.kept hF 28 rfl (fun q _ _ h => h.elim)
  replace h_hw := h_hw.kept hF (fun q _ _ h => h.elim)
  replace h_w := h_w.kept hF (fun q _ h => h.elim)
  show V p l e (rmL 12 1 6) s m args below meth cd Q 7 H4 lo4 0 0 21 [(3, .int (zI r_2)), (0, .ref x), (1, .ref (E 107 0)), (2, .int (zI k))] [.int (zI r_5)]
  refine v_istore X dL_acts_21 23 rfl (by decide) (L' := [(4, .int (zI r_5)), (3, .int (zI r_2)), (0, .ref x), (1, .ref (E 107 0)), (2, .int (zI k))]) rfl ?_
  refine v_aload_n X dL_acts_23 24 rfl 3 rfl ?_
  refine v_iload_n X dL_acts_24 25 rfl 4 rfl ?_
  refine v_iconst X dL_acts_25 26 rfl ?_
  refine v_iadd X dL_acts_26 27 rfl ?_
  refine v_aload_n X dL_acts_27 28 rfl 2 rfl ?_
  refine v_rdV X hM.C (PW.app h_cm.1 h_co.1) (c_X9_witnessCount l E x co 0 (-1) (-1) 0 hO) kvX9_witnessCount kiX9_witnessCount kl_L_91 rfl rfl (As := []) rfl rfl (rm_L0 rfl (by omega) (by omega)) dL_acts_28 31 rfl ?_
  show V p l e (rmL 12 1 6) s m args below meth cd Q 7 H4 lo4 0 0 31 [(4, .int (zI r_5)), (3, .int (zI r_2)), (0, .ref x), (1, .ref (E 107 0)), (2, .int (zI k))] [.int (zI (co 0 1)), .int (zI (k + 3)), .ref (E 107 0)]
  refine v_muS X hM (c_L_some l E (k + 3) (co 0 1) (by omega) (by omega) (by omega) (by omega)) kvL_some ksL_some kl_L_74 (As := [.ref (E 107 0), .int (zI (k + 3)), .int (zI (co 0 1))]) rfl rfl (rm_L rfl (by omega) (by omega)) dL_acts_31 34 rfl (k' := 0) (n' := 0) rfl rfl (fun q hq => hq.elim) ⟨⟩ (fun rv H7 lo7 hM hF hpo => ?_)
  obtain ⟨r_8, rfl, hp_f_9⟩ := hpo
  replace h_cm := h_cm.kept hF 1 rfl (fun q _ _ h => h.elim)
  replace h_co := h_co.kept hF 28 rfl (fun q _ _ h => h.elim)
  replace h_hw := h_hw.kept hF (fun q _ _ h => h.elim)
  replace h_w := h_w.kept hF (fun q _ h => h.elim)
  show V p l e (rmL 12 1 6) s m args below meth cd Q 7 H7 lo7 0 0 34 [(4, .int (zI r_5)), (3, .int (zI r_2)), (0, .ref x), (1, .ref (E 107 0)), (2, .int (zI k))] [.int (zI r_8)]
  refine v_istore X dL_acts_34 36 rfl (by decide) (L' := [(5, .int (zI r_8)), (4, .int (zI r_5)), (3, .int (zI r_2)), (0, .ref x), (1, .ref (E 107 0)), (2, .int (zI k))]) rfl ?_
  refine v_aload_n X dL_acts_36 37 rfl 4 rfl ?_
  refine v_iload_n X dL_acts_37 38 rfl 5 rfl ?_
  refine v_bipush X dL_acts_38 40 rfl rfl ?_
  refine v_muS X hM (c_L_some l E k 16 kk0 (by omega) (by omega) (by omega)) kvL_some ksL_some kl_L_74 (As := [.ref (E 107 0), .int (zI k), .int (zI 16)]) rfl rfl (rm_L rfl (by omega) (by omega)) dL_acts_40 43 rfl (k' := 0) (n' := 0) rfl rfl (fun q hq => hq.elim) ⟨⟩ (fun rv H10 lo10 hM hF hpo => ?_)
  obtain ⟨r_11, rfl, hp_f_12⟩ := hpo
  replace h_cm := h_cm.kept hF 1 rfl (fun q _ _ h => h.elim)
  replace h_co := h_co.kept hF 28 rfl (fun q _ _ h => h.elim)
  replace h_hw := h_hw.kept hF (fun q _ _ h => h.elim)
  replace h_w := h_w.kept hF (fun q _ h => h.elim)
  show V p l e (rmL 12 1 6) s m args below meth cd Q 7 H10 lo10 0 0 43 [(5, .int (zI r_8)), (4, .int (zI r_5)), (3, .int (zI r_2)), (0, .ref x), (1, .ref (E 107 0)), (2, .int (zI k))] [.int (zI r_11)]
  rcases (show r_11 = 0 ∨ r_11 = 1 ∨ r_11 = 2 ∨ r_11 = 3 ∨ r_11 = 4 ∨ r_11 = 5 ∨ r_11 = 6 ∨ r_11 = 7 ∨ r_11 = 8 ∨ r_11 = 9 ∨ r_11 = 10 ∨ r_11 = 11 ∨ r_11 = 12 ∨ r_11 = 13 ∨ r_11 = 14 ∨ r_11 = 15 by omega) with rfl | rfl | rfl | rfl | rfl | rfl | rfl | rfl | rfl | rfl | rfl | rfl | rfl | rfl | rfl | rfl
  · skip
    refine v_tabIn X (by omega) dL_acts_43 (by omega) (by omega) 0 (by omega) (off := 73) rfl 116 (by decide) ?_
    refine v_aload_n X dL_acts_116 117 rfl 3 rfl ?_
    refine v_rdV X hM.C (PW.app h_cm.1 h_co.1) (c_X9_caseCount l E x co 0 (-1) (-1) 0 hO) kvX9_caseCount kiX9_caseCount kl_L_88 rfl rfl (As := []) rfl rfl (rm_L0 rfl (by omega) (by omega)) dL_acts_117 120 rfl ?_
    show V p l e (rmL 12 1 6) s m args below meth cd Q 7 H10 lo10 0 0 120 [(5, .int (zI r_8)), (4, .int (zI r_5)), (3, .int (zI r_2)), (0, .ref x), (1, .ref (E 107 0)), (2, .int (zI k))] [.int (zI (co 0 0))]
    refine v_bipush X dL_acts_120 122 rfl rfl ?_
    refine v_icmp_ge X (by omega) (by omega) dL_acts_122 125 139 rfl (by decide) (fun c_13 => ?_) (fun c_13 => ?_)
    · skip
      refine v_iconst X dL_acts_139 140 rfl ?_
      refine v_istore X dL_acts_140 142 rfl (by decide) (L' := [(6, .int (zI 0)), (5, .int (zI r_8)), (4, .int (zI r_5)), (3, .int (zI r_2)), (0, .ref x), (1, .ref (E 107 0)), (2, .int (zI k))]) rfl ?_
      refine v_goto X dL_acts_142 280 (by decide) ?_
      refine v_widen (k' := 1) (n' := 6) (by omega) (by omega) ?_
      subst hQ; exact m_vret X hr hlk hM dL_acts_280 rfl ⟨co, rfl, (by exact hA.wide (by omega)), h_co, h_hw, h_w⟩
    · skip
      refine v_aload_n X dL_acts_125 126 rfl 3 rfl ?_
      refine v_iload_n X dL_acts_126 127 rfl 2 rfl ?_
      refine v_bipush X dL_acts_127 129 rfl rfl ?_
      refine v_irem X (by omega) (by omega) (by omega) (by omega) dL_acts_129 130 rfl ?_
      refine v_iload_n X dL_acts_130 131 rfl 2 rfl ?_
      refine v_iconst X dL_acts_131 132 rfl ?_
      refine v_irem X (by omega) (by omega) (by omega) (by omega) dL_acts_132 133 rfl ?_
      refine v_mwS X hM (p_L_charge l hl E x co (r_2 % 6) (r_2 % 5) hO (by omega) (by omega)) kwL_charge ksL_charge kl_L_81 (As := [.ref x, .int (zI (r_2 % 6)), .int (zI (r_2 % 5))]) rfl rfl (rm_LW rfl (by omega) (by omega)) dL_acts_133 136 rfl (k' := 1) (n' := 6) rfl rfl (by intro q hq; simp only [Fr, Fs, or_false, false_or] at hq ⊢; omega) ⟨h_cm, h_co, h_hw⟩ (fun rv H14 lo14 hM hF hpo => ?_)
      obtain ⟨r_15, co1_16, rfl, hp_f_17, hw_0, hw_1⟩ := hpo
      have h_co : PR E (x + 1) (courtW E (x + 1) co1_16) H14 := hw_0
      clear hw_0
      have h_hw : HW E x H14 := hw_1
      clear hw_1
      replace h_cm := h_cm.kept hF 1 rfl (by intro q q1 q2 q3; simp only [Fs, or_false] at q3; omega)
      replace h_w := h_w.kept hF (by intro q q1 q3; simp only [Fs, or_false] at q3; omega)
      show V p l e (rmL 12 1 6) s m args below meth cd Q 7 H14 lo14 1 6 136 [(5, .int (zI r_8)), (4, .int (zI r_5)), (3, .int (zI r_2)), (0, .ref x), (1, .ref (E 107 0)), (2, .int (zI k))] [.int (zI r_15)]
      refine v_goto X dL_acts_136 140 (by decide) ?_
      refine v_istore X dL_acts_140 142 rfl (by decide) (L' := [(6, .int (zI r_15)), (5, .int (zI r_8)), (4, .int (zI r_5)), (3, .int (zI r_2)), (0, .ref x), (1, .ref (E 107 0)), (2, .int (zI k))]) rfl ?_
      refine v_goto X dL_acts_142 280 (by decide) ?_
      refine v_widen (k' := 1) (n' := 6) (by omega) (by omega) ?_
      subst hQ; exact m_vret X hr hlk hM dL_acts_280 rfl ⟨co1_16, rfl, (by exact ac_call hA (by decide) (fun _ => by omega) (fun _ => by omega) hp_f_17), h_co, h_hw, h_w⟩
  · skip
    refine v_tabIn X (by omega) dL_acts_43 (by omega) (by omega) 1 (by omega) (off := 102) rfl 145 (by decide) ?_
    refine v_aload_n X dL_acts_145 146 rfl 3 rfl ?_
    refine v_rdV X hM.C (PW.app h_cm.1 h_co.1) (c_X9_witnessCount l E x co 0 (-1) (-1) 0 hO) kvX9_witnessCount kiX9_witnessCount kl_L_91 rfl rfl (As := []) rfl rfl (rm_L0 rfl (by omega) (by omega)) dL_acts_146 149 rfl ?_
    show V p l e (rmL 12 1 6) s m args below meth cd Q 7 H10 lo10 0 0 149 [(5, .int (zI r_8)), (4, .int (zI r_5)), (3, .int (zI r_2)), (0, .ref x), (1, .ref (E 107 0)), (2, .int (zI k))] [.int (zI (co 0 1))]
    refine v_bipush X dL_acts_149 151 rfl rfl ?_
    refine v_icmp_ge X (by omega) (by omega) dL_acts_151 154 165 rfl (by decide) (fun c_18 => ?_) (fun c_18 => ?_)
    · skip
      refine v_iconst X dL_acts_165 166 rfl ?_
      refine v_istore X dL_acts_166 168 rfl (by decide) (L' := [(6, .int (zI 0)), (5, .int (zI r_8)), (4, .int (zI r_5)), (3, .int (zI r_2)), (0, .ref x), (1, .ref (E 107 0)), (2, .int (zI k))]) rfl ?_
      refine v_goto X dL_acts_168 280 (by decide) ?_
      refine v_widen (k' := 1) (n' := 6) (by omega) (by omega) ?_
      subst hQ; exact m_vret X hr hlk hM dL_acts_280 rfl ⟨co, rfl, (by exact hA.wide (by omega)), h_co, h_hw, h_w⟩
    · skip
      refine v_aload_n X dL_acts_154 155 rfl 3 rfl ?_
      refine v_iload_n X dL_acts_155 156 rfl 2 rfl ?_
      refine v_bipush X dL_acts_156 158 rfl rfl ?_
      refine v_irem X (by omega) (by omega) (by omega) (by omega) dL_acts_158 159 rfl ?_
      refine v_mwS X hM (p_L_addWitness l hl E x co (r_2 % 10) hO (by omega)) kwL_addWitness ksL_addWitness kl_L_78 (As := [.ref x, .int (zI (r_2 % 10))]) rfl rfl (rm_LW rfl (by omega) (by omega)) dL_acts_159 162 rfl (k' := 1) (n' := 6) rfl rfl (by intro q hq; simp only [Fr, Fs, or_false, false_or] at hq ⊢; omega) ⟨h_cm, h_co, h_hw⟩ (fun rv H19 lo19 hM hF hpo => ?_)
      obtain ⟨r_20, co1_21, rfl, hp_f_22, hw_0, hw_1⟩ := hpo
      have h_co : PR E (x + 1) (courtW E (x + 1) co1_21) H19 := hw_0
      clear hw_0
      have h_hw : HW E x H19 := hw_1
      clear hw_1
      replace h_cm := h_cm.kept hF 1 rfl (by intro q q1 q2 q3; simp only [Fs, or_false] at q3; omega)
      replace h_w := h_w.kept hF (by intro q q1 q3; simp only [Fs, or_false] at q3; omega)
      show V p l e (rmL 12 1 6) s m args below meth cd Q 7 H19 lo19 1 6 162 [(5, .int (zI r_8)), (4, .int (zI r_5)), (3, .int (zI r_2)), (0, .ref x), (1, .ref (E 107 0)), (2, .int (zI k))] [.int (zI r_20)]
      refine v_goto X dL_acts_162 166 (by decide) ?_
      refine v_istore X dL_acts_166 168 rfl (by decide) (L' := [(6, .int (zI r_20)), (5, .int (zI r_8)), (4, .int (zI r_5)), (3, .int (zI r_2)), (0, .ref x), (1, .ref (E 107 0)), (2, .int (zI k))]) rfl ?_
      refine v_goto X dL_acts_168 280 (by decide) ?_
      refine v_widen (k' := 1) (n' := 6) (by omega) (by omega) ?_
      subst hQ; exact m_vret X hr hlk hM dL_acts_280 rfl ⟨co1_21, rfl, (by exact ac_call hA (by decide) (fun _ => by omega) (fun _ => by omega) hp_f_22), h_co, h_hw, h_w⟩
  · skip
    refine v_tabIn X (by omega) dL_acts_43 (by omega) (by omega) 2 (by omega) (off := 128) rfl 171 (by decide) ?_
    refine v_aload_n X dL_acts_171 172 rfl 3 rfl ?_
    refine v_iload X dL_acts_172 174 rfl 1 rfl ?_
    refine v_iload X dL_acts_174 176 rfl 0 rfl ?_
    refine v_iload_n X dL_acts_176 177 rfl 2 rfl ?_
    refine v_iconst X dL_acts_177 178 rfl ?_
    refine v_irem X (by omega) (by omega) (by omega) (by omega) dL_acts_178 179 rfl ?_
    refine v_if_le X (by omega) dL_acts_179 182 186 rfl (by decide) (fun c_23 => ?_) (fun c_23 => ?_)
    · skip
      refine v_iconst X dL_acts_186 187 rfl ?_
      refine v_iconst X dL_acts_187 188 rfl ?_
      refine v_iload_n X dL_acts_188 189 rfl 2 rfl ?_
      refine v_iconst X dL_acts_189 190 rfl ?_
      refine v_irem X (by omega) (by omega) (by omega) (by omega) dL_acts_190 191 rfl ?_
      refine v_iadd X dL_acts_191 192 rfl ?_
      refine v_mwS X hM (p_L_testify l hl E x co r_5 r_8 0 (1 + r_2 % 5) hO (by omega) (by omega) (by omega) (by omega)) kwL_testify ksL_testify kl_L_94 (As := [.ref x, .int (zI r_5), .int (zI r_8), .int (zI 0), .int (zI (1 + r_2 % 5))]) rfl rfl (rm_LW rfl (by omega) (by omega)) dL_acts_192 195 rfl (k' := 1) (n' := 6) rfl rfl (by intro q hq; simp only [Fr, Fs, or_false, false_or] at hq ⊢; omega) ⟨h_cm, h_co, h_hw⟩ (fun rv H24 lo24 hM hF hpo => ?_)
      obtain ⟨r_25, co1_26, rfl, hp_f_27, hw_0, hw_1⟩ := hpo
      have h_co : PR E (x + 1) (courtW E (x + 1) co1_26) H24 := hw_0
      clear hw_0
      have h_hw : HW E x H24 := hw_1
      clear hw_1
      replace h_cm := h_cm.kept hF 1 rfl (by intro q q1 q2 q3; simp only [Fs, or_false] at q3; omega)
      replace h_w := h_w.kept hF (by intro q q1 q3; simp only [Fs, or_false] at q3; omega)
      show V p l e (rmL 12 1 6) s m args below meth cd Q 7 H24 lo24 1 6 195 [(5, .int (zI r_8)), (4, .int (zI r_5)), (3, .int (zI r_2)), (0, .ref x), (1, .ref (E 107 0)), (2, .int (zI k))] [.int (zI r_25)]
      refine v_istore X dL_acts_195 197 rfl (by decide) (L' := [(6, .int (zI r_25)), (5, .int (zI r_8)), (4, .int (zI r_5)), (3, .int (zI r_2)), (0, .ref x), (1, .ref (E 107 0)), (2, .int (zI k))]) rfl ?_
      refine v_goto X dL_acts_197 280 (by decide) ?_
      refine v_widen (k' := 1) (n' := 6) (by omega) (by omega) ?_
      subst hQ; exact m_vret X hr hlk hM dL_acts_280 rfl ⟨co1_26, rfl, (by exact ac_call hA (by decide) (fun _ => by omega) (fun _ => by omega) hp_f_27), h_co, h_hw, h_w⟩
    · skip
      refine v_iconst X dL_acts_182 183 rfl ?_
      refine v_goto X dL_acts_183 187 (by decide) ?_
      refine v_iconst X dL_acts_187 188 rfl ?_
      refine v_iload_n X dL_acts_188 189 rfl 2 rfl ?_
      refine v_iconst X dL_acts_189 190 rfl ?_
      refine v_irem X (by omega) (by omega) (by omega) (by omega) dL_acts_190 191 rfl ?_
      refine v_iadd X dL_acts_191 192 rfl ?_
      refine v_mwS X hM (p_L_testify l hl E x co r_5 r_8 1 (1 + r_2 % 5) hO (by omega) (by omega) (by omega) (by omega)) kwL_testify ksL_testify kl_L_94 (As := [.ref x, .int (zI r_5), .int (zI r_8), .int (zI 1), .int (zI (1 + r_2 % 5))]) rfl rfl (rm_LW rfl (by omega) (by omega)) dL_acts_192 195 rfl (k' := 1) (n' := 6) rfl rfl (by intro q hq; simp only [Fr, Fs, or_false, false_or] at hq ⊢; omega) ⟨h_cm, h_co, h_hw⟩ (fun rv H28 lo28 hM hF hpo => ?_)
      obtain ⟨r_29, co1_30, rfl, hp_f_31, hw_0, hw_1⟩ := hpo
      have h_co : PR E (x + 1) (courtW E (x + 1) co1_30) H28 := hw_0
      clear hw_0
      have h_hw : HW E x H28 := hw_1
      clear hw_1
      replace h_cm := h_cm.kept hF 1 rfl (by intro q q1 q2 q3; simp only [Fs, or_false] at q3; omega)
      replace h_w := h_w.kept hF (by intro q q1 q3; simp only [Fs, or_false] at q3; omega)
      show V p l e (rmL 12 1 6) s m args below meth cd Q 7 H28 lo28 1 6 195 [(5, .int (zI r_8)), (4, .int (zI r_5)), (3, .int (zI r_2)), (0, .ref x), (1, .ref (E 107 0)), (2, .int (zI k))] [.int (zI r_29)]
      refine v_istore X dL_acts_195 197 rfl (by decide) (L' := [(6, .int (zI r_29)), (5, .int (zI r_8)), (4, .int (zI r_5)), (3, .int (zI r_2)), (0, .ref x), (1, .ref (E 107 0)), (2, .int (zI k))]) rfl ?_
      refine v_goto X dL_acts_197 280 (by decide) ?_
      refine v_widen (k' := 1) (n' := 6) (by omega) (by omega) ?_
      subst hQ; exact m_vret X hr hlk hM dL_acts_280 rfl ⟨co1_30, rfl, (by exact ac_call hA (by decide) (fun _ => by omega) (fun _ => by omega) hp_f_31), h_co, h_hw, h_w⟩
  · skip
    refine v_tabIn X (by omega) dL_acts_43 (by omega) (by omega) 3 (by omega) (off := 128) rfl 171 (by decide) ?_
    refine v_aload_n X dL_acts_171 172 rfl 3 rfl ?_
    refine v_iload X dL_acts_172 174 rfl 1 rfl ?_
    refine v_iload X dL_acts_174 176 rfl 0 rfl ?_
    refine v_iload_n X dL_acts_176 177 rfl 2 rfl ?_
    refine v_iconst X dL_acts_177 178 rfl ?_
    refine v_irem X (by omega) (by omega) (by omega) (by omega) dL_acts_178 179 rfl ?_
    refine v_if_le X (by omega) dL_acts_179 182 186 rfl (by decide) (fun c_32 => ?_) (fun c_32 => ?_)
    · skip
      refine v_iconst X dL_acts_186 187 rfl ?_
      refine v_iconst X dL_acts_187 188 rfl ?_
      refine v_iload_n X dL_acts_188 189 rfl 2 rfl ?_
      refine v_iconst X dL_acts_189 190 rfl ?_
      refine v_irem X (by omega) (by omega) (by omega) (by omega) dL_acts_190 191 rfl ?_
      refine v_iadd X dL_acts_191 192 rfl ?_
      refine v_mwS X hM (p_L_testify l hl E x co r_5 r_8 0 (1 + r_2 % 5) hO (by omega) (by omega) (by omega) (by omega)) kwL_testify ksL_testify kl_L_94 (As := [.ref x, .int (zI r_5), .int (zI r_8), .int (zI 0), .int (zI (1 + r_2 % 5))]) rfl rfl (rm_LW rfl (by omega) (by omega)) dL_acts_192 195 rfl (k' := 1) (n' := 6) rfl rfl (by intro q hq; simp only [Fr, Fs, or_false, false_or] at hq ⊢; omega) ⟨h_cm, h_co, h_hw⟩ (fun rv H33 lo33 hM hF hpo => ?_)
      obtain ⟨r_34, co1_35, rfl, hp_f_36, hw_0, hw_1⟩ := hpo
      have h_co : PR E (x + 1) (courtW E (x + 1) co1_35) H33 := hw_0
      clear hw_0
      have h_hw : HW E x H33 := hw_1
      clear hw_1
      replace h_cm := h_cm.kept hF 1 rfl (by intro q q1 q2 q3; simp only [Fs, or_false] at q3; omega)
      replace h_w := h_w.kept hF (by intro q q1 q3; simp only [Fs, or_false] at q3; omega)
      show V p l e (rmL 12 1 6) s m args below meth cd Q 7 H33 lo33 1 6 195 [(5, .int (zI r_8)), (4, .int (zI r_5)), (3, .int (zI r_2)), (0, .ref x), (1, .ref (E 107 0)), (2, .int (zI k))] [.int (zI r_34)]
      refine v_istore X dL_acts_195 197 rfl (by decide) (L' := [(6, .int (zI r_34)), (5, .int (zI r_8)), (4, .int (zI r_5)), (3, .int (zI r_2)), (0, .ref x), (1, .ref (E 107 0)), (2, .int (zI k))]) rfl ?_
      refine v_goto X dL_acts_197 280 (by decide) ?_
      refine v_widen (k' := 1) (n' := 6) (by omega) (by omega) ?_
      subst hQ; exact m_vret X hr hlk hM dL_acts_280 rfl ⟨co1_35, rfl, (by exact ac_call hA (by decide) (fun _ => by omega) (fun _ => by omega) hp_f_36), h_co, h_hw, h_w⟩
    · skip
      refine v_iconst X dL_acts_182 183 rfl ?_
      refine v_goto X dL_acts_183 187 (by decide) ?_
      refine v_iconst X dL_acts_187 188 rfl ?_
      refine v_iload_n X dL_acts_188 189 rfl 2 rfl ?_
      refine v_iconst X dL_acts_189 190 rfl ?_
      refine v_irem X (by omega) (by omega) (by omega) (by omega) dL_acts_190 191 rfl ?_
      refine v_iadd X dL_acts_191 192 rfl ?_
      refine v_mwS X hM (p_L_testify l hl E x co r_5 r_8 1 (1 + r_2 % 5) hO (by omega) (by omega) (by omega) (by omega)) kwL_testify ksL_testify kl_L_94 (As := [.ref x, .int (zI r_5), .int (zI r_8), .int (zI 1), .int (zI (1 + r_2 % 5))]) rfl rfl (rm_LW rfl (by omega) (by omega)) dL_acts_192 195 rfl (k' := 1) (n' := 6) rfl rfl (by intro q hq; simp only [Fr, Fs, or_false, false_or] at hq ⊢; omega) ⟨h_cm, h_co, h_hw⟩ (fun rv H37 lo37 hM hF hpo => ?_)
      obtain ⟨r_38, co1_39, rfl, hp_f_40, hw_0, hw_1⟩ := hpo
      have h_co : PR E (x + 1) (courtW E (x + 1) co1_39) H37 := hw_0
      clear hw_0
      have h_hw : HW E x H37 := hw_1
      clear hw_1
      replace h_cm := h_cm.kept hF 1 rfl (by intro q q1 q2 q3; simp only [Fs, or_false] at q3; omega)
      replace h_w := h_w.kept hF (by intro q q1 q3; simp only [Fs, or_false] at q3; omega)
      show V p l e (rmL 12 1 6) s m args below meth cd Q 7 H37 lo37 1 6 195 [(5, .int (zI r_8)), (4, .int (zI r_5)), (3, .int (zI r_2)), (0, .ref x), (1, .ref (E 107 0)), (2, .int (zI k))] [.int (zI r_38)]
      refine v_istore X dL_acts_195 197 rfl (by decide) (L' := [(6, .int (zI r_38)), (5, .int (zI r_8)), (4, .int (zI r_5)), (3, .int (zI r_2)), (0, .ref x), (1, .ref (E 107 0)), (2, .int (zI k))]) rfl ?_
      refine v_goto X dL_acts_197 280 (by decide) ?_
      refine v_widen (k' := 1) (n' := 6) (by omega) (by omega) ?_
      subst hQ; exact m_vret X hr hlk hM dL_acts_280 rfl ⟨co1_39, rfl, (by exact ac_call hA (by decide) (fun _ => by omega) (fun _ => by omega) hp_f_40), h_co, h_hw, h_w⟩
  · skip
    refine v_tabIn X (by omega) dL_acts_43 (by omega) (by omega) 4 (by omega) (off := 128) rfl 171 (by decide) ?_
    refine v_aload_n X dL_acts_171 172 rfl 3 rfl ?_
    refine v_iload X dL_acts_172 174 rfl 1 rfl ?_
    refine v_iload X dL_acts_174 176 rfl 0 rfl ?_
    refine v_iload_n X dL_acts_176 177 rfl 2 rfl ?_
    refine v_iconst X dL_acts_177 178 rfl ?_
    refine v_irem X (by omega) (by omega) (by omega) (by omega) dL_acts_178 179 rfl ?_
    refine v_if_le X (by omega) dL_acts_179 182 186 rfl (by decide) (fun c_41 => ?_) (fun c_41 => ?_)
    · skip
      refine v_iconst X dL_acts_186 187 rfl ?_
      refine v_iconst X dL_acts_187 188 rfl ?_
      refine v_iload_n X dL_acts_188 189 rfl 2 rfl ?_
      refine v_iconst X dL_acts_189 190 rfl ?_
      refine v_irem X (by omega) (by omega) (by omega) (by omega) dL_acts_190 191 rfl ?_
      refine v_iadd X dL_acts_191 192 rfl ?_
      refine v_mwS X hM (p_L_testify l hl E x co r_5 r_8 0 (1 + r_2 % 5) hO (by omega) (by omega) (by omega) (by omega)) kwL_testify ksL_testify kl_L_94 (As := [.ref x, .int (zI r_5), .int (zI r_8), .int (zI 0), .int (zI (1 + r_2 % 5))]) rfl rfl (rm_LW rfl (by omega) (by omega)) dL_acts_192 195 rfl (k' := 1) (n' := 6) rfl rfl (by intro q hq; simp only [Fr, Fs, or_false, false_or] at hq ⊢; omega) ⟨h_cm, h_co, h_hw⟩ (fun rv H42 lo42 hM hF hpo => ?_)
      obtain ⟨r_43, co1_44, rfl, hp_f_45, hw_0, hw_1⟩ := hpo
      have h_co : PR E (x + 1) (courtW E (x + 1) co1_44) H42 := hw_0
      clear hw_0
      have h_hw : HW E x H42 := hw_1
      clear hw_1
      replace h_cm := h_cm.kept hF 1 rfl (by intro q q1 q2 q3; simp only [Fs, or_false] at q3; omega)
      replace h_w := h_w.kept hF (by intro q q1 q3; simp only [Fs, or_false] at q3; omega)
      show V p l e (rmL 12 1 6) s m args below meth cd Q 7 H42 lo42 1 6 195 [(5, .int (zI r_8)), (4, .int (zI r_5)), (3, .int (zI r_2)), (0, .ref x), (1, .ref (E 107 0)), (2, .int (zI k))] [.int (zI r_43)]
      refine v_istore X dL_acts_195 197 rfl (by decide) (L' := [(6, .int (zI r_43)), (5, .int (zI r_8)), (4, .int (zI r_5)), (3, .int (zI r_2)), (0, .ref x), (1, .ref (E 107 0)), (2, .int (zI k))]) rfl ?_
      refine v_goto X dL_acts_197 280 (by decide) ?_
      refine v_widen (k' := 1) (n' := 6) (by omega) (by omega) ?_
      subst hQ; exact m_vret X hr hlk hM dL_acts_280 rfl ⟨co1_44, rfl, (by exact ac_call hA (by decide) (fun _ => by omega) (fun _ => by omega) hp_f_45), h_co, h_hw, h_w⟩
    · skip
      refine v_iconst X dL_acts_182 183 rfl ?_
      refine v_goto X dL_acts_183 187 (by decide) ?_
      refine v_iconst X dL_acts_187 188 rfl ?_
      refine v_iload_n X dL_acts_188 189 rfl 2 rfl ?_
      refine v_iconst X dL_acts_189 190 rfl ?_
      refine v_irem X (by omega) (by omega) (by omega) (by omega) dL_acts_190 191 rfl ?_
      refine v_iadd X dL_acts_191 192 rfl ?_
      refine v_mwS X hM (p_L_testify l hl E x co r_5 r_8 1 (1 + r_2 % 5) hO (by omega) (by omega) (by omega) (by omega)) kwL_testify ksL_testify kl_L_94 (As := [.ref x, .int (zI r_5), .int (zI r_8), .int (zI 1), .int (zI (1 + r_2 % 5))]) rfl rfl (rm_LW rfl (by omega) (by omega)) dL_acts_192 195 rfl (k' := 1) (n' := 6) rfl rfl (by intro q hq; simp only [Fr, Fs, or_false, false_or] at hq ⊢; omega) ⟨h_cm, h_co, h_hw⟩ (fun rv H46 lo46 hM hF hpo => ?_)
      obtain ⟨r_47, co1_48, rfl, hp_f_49, hw_0, hw_1⟩ := hpo
      have h_co : PR E (x + 1) (courtW E (x + 1) co1_48) H46 := hw_0
      clear hw_0
      have h_hw : HW E x H46 := hw_1
      clear hw_1
      replace h_cm := h_cm.kept hF 1 rfl (by intro q q1 q2 q3; simp only [Fs, or_false] at q3; omega)
      replace h_w := h_w.kept hF (by intro q q1 q3; simp only [Fs, or_false] at q3; omega)
      show V p l e (rmL 12 1 6) s m args below meth cd Q 7 H46 lo46 1 6 195 [(5, .int (zI r_8)), (4, .int (zI r_5)), (3, .int (zI r_2)), (0, .ref x), (1, .ref (E 107 0)), (2, .int (zI k))] [.int (zI r_47)]
      refine v_istore X dL_acts_195 197 rfl (by decide) (L' := [(6, .int (zI r_47)), (5, .int (zI r_8)), (4, .int (zI r_5)), (3, .int (zI r_2)), (0, .ref x), (1, .ref (E 107 0)), (2, .int (zI k))]) rfl ?_
      refine v_goto X dL_acts_197 280 (by decide) ?_
      refine v_widen (k' := 1) (n' := 6) (by omega) (by omega) ?_
      subst hQ; exact m_vret X hr hlk hM dL_acts_280 rfl ⟨co1_48, rfl, (by exact ac_call hA (by decide) (fun _ => by omega) (fun _ => by omega) hp_f_49), h_co, h_hw, h_w⟩
  · skip
    refine v_tabIn X (by omega) dL_acts_43 (by omega) (by omega) 5 (by omega) (off := 128) rfl 171 (by decide) ?_
    refine v_aload_n X dL_acts_171 172 rfl 3 rfl ?_
    refine v_iload X dL_acts_172 174 rfl 1 rfl ?_
    refine v_iload X dL_acts_174 176 rfl 0 rfl ?_
    refine v_iload_n X dL_acts_176 177 rfl 2 rfl ?_
    refine v_iconst X dL_acts_177 178 rfl ?_
    refine v_irem X (by omega) (by omega) (by omega) (by omega) dL_acts_178 179 rfl ?_
    refine v_if_le X (by omega) dL_acts_179 182 186 rfl (by decide) (fun c_50 => ?_) (fun c_50 => ?_)
    · skip
      refine v_iconst X dL_acts_186 187 rfl ?_
      refine v_iconst X dL_acts_187 188 rfl ?_
      refine v_iload_n X dL_acts_188 189 rfl 2 rfl ?_
      refine v_iconst X dL_acts_189 190 rfl ?_
      refine v_irem X (by omega) (by omega) (by omega) (by omega) dL_acts_190 191 rfl ?_
      refine v_iadd X dL_acts_191 192 rfl ?_
      refine v_mwS X hM (p_L_testify l hl E x co r_5 r_8 0 (1 + r_2 % 5) hO (by omega) (by omega) (by omega) (by omega)) kwL_testify ksL_testify kl_L_94 (As := [.ref x, .int (zI r_5), .int (zI r_8), .int (zI 0), .int (zI (1 + r_2 % 5))]) rfl rfl (rm_LW rfl (by omega) (by omega)) dL_acts_192 195 rfl (k' := 1) (n' := 6) rfl rfl (by intro q hq; simp only [Fr, Fs, or_false, false_or] at hq ⊢; omega) ⟨h_cm, h_co, h_hw⟩ (fun rv H51 lo51 hM hF hpo => ?_)
      obtain ⟨r_52, co1_53, rfl, hp_f_54, hw_0, hw_1⟩ := hpo
      have h_co : PR E (x + 1) (courtW E (x + 1) co1_53) H51 := hw_0
      clear hw_0
      have h_hw : HW E x H51 := hw_1
      clear hw_1
      replace h_cm := h_cm.kept hF 1 rfl (by intro q q1 q2 q3; simp only [Fs, or_false] at q3; omega)
      replace h_w := h_w.kept hF (by intro q q1 q3; simp only [Fs, or_false] at q3; omega)
      show V p l e (rmL 12 1 6) s m args below meth cd Q 7 H51 lo51 1 6 195 [(5, .int (zI r_8)), (4, .int (zI r_5)), (3, .int (zI r_2)), (0, .ref x), (1, .ref (E 107 0)), (2, .int (zI k))] [.int (zI r_52)]
      refine v_istore X dL_acts_195 197 rfl (by decide) (L' := [(6, .int (zI r_52)), (5, .int (zI r_8)), (4, .int (zI r_5)), (3, .int (zI r_2)), (0, .ref x), (1, .ref (E 107 0)), (2, .int (zI k))]) rfl ?_
      refine v_goto X dL_acts_197 280 (by decide) ?_
      refine v_widen (k' := 1) (n' := 6) (by omega) (by omega) ?_
      subst hQ; exact m_vret X hr hlk hM dL_acts_280 rfl ⟨co1_53, rfl, (by exact ac_call hA (by decide) (fun _ => by omega) (fun _ => by omega) hp_f_54), h_co, h_hw, h_w⟩
    · skip
      refine v_iconst X dL_acts_182 183 rfl ?_
      refine v_goto X dL_acts_183 187 (by decide) ?_
      refine v_iconst X dL_acts_187 188 rfl ?_
      refine v_iload_n X dL_acts_188 189 rfl 2 rfl ?_
      refine v_iconst X dL_acts_189 190 rfl ?_
      refine v_irem X (by omega) (by omega) (by omega) (by omega) dL_acts_190 191 rfl ?_
      refine v_iadd X dL_acts_191 192 rfl ?_
      refine v_mwS X hM (p_L_testify l hl E x co r_5 r_8 1 (1 + r_2 % 5) hO (by omega) (by omega) (by omega) (by omega)) kwL_testify ksL_testify kl_L_94 (As := [.ref x, .int (zI r_5), .int (zI r_8), .int (zI 1), .int (zI (1 + r_2 % 5))]) rfl rfl (rm_LW rfl (by omega) (by omega)) dL_acts_192 195 rfl (k' := 1) (n' := 6) rfl rfl (by intro q hq; simp only [Fr, Fs, or_false, false_or] at hq ⊢; omega) ⟨h_cm, h_co, h_hw⟩ (fun rv H55 lo55 hM hF hpo => ?_)
      obtain ⟨r_56, co1_57, rfl, hp_f_58, hw_0, hw_1⟩ := hpo
      have h_co : PR E (x + 1) (courtW E (x + 1) co1_57) H55 := hw_0
      clear hw_0
      have h_hw : HW E x H55 := hw_1
      clear hw_1
      replace h_cm := h_cm.kept hF 1 rfl (by intro q q1 q2 q3; simp only [Fs, or_false] at q3; omega)
      replace h_w := h_w.kept hF (by intro q q1 q3; simp only [Fs, or_false] at q3; omega)
      show V p l e (rmL 12 1 6) s m args below meth cd Q 7 H55 lo55 1 6 195 [(5, .int (zI r_8)), (4, .int (zI r_5)), (3, .int (zI r_2)), (0, .ref x), (1, .ref (E 107 0)), (2, .int (zI k))] [.int (zI r_56)]
      refine v_istore X dL_acts_195 197 rfl (by decide) (L' := [(6, .int (zI r_56)), (5, .int (zI r_8)), (4, .int (zI r_5)), (3, .int (zI r_2)), (0, .ref x), (1, .ref (E 107 0)), (2, .int (zI k))]) rfl ?_
      refine v_goto X dL_acts_197 280 (by decide) ?_
      refine v_widen (k' := 1) (n' := 6) (by omega) (by omega) ?_
      subst hQ; exact m_vret X hr hlk hM dL_acts_280 rfl ⟨co1_57, rfl, (by exact ac_call hA (by decide) (fun _ => by omega) (fun _ => by omega) hp_f_58), h_co, h_hw, h_w⟩
  · skip
    refine v_tabIn X (by omega) dL_acts_43 (by omega) (by omega) 6 (by omega) (off := 128) rfl 171 (by decide) ?_
    refine v_aload_n X dL_acts_171 172 rfl 3 rfl ?_
    refine v_iload X dL_acts_172 174 rfl 1 rfl ?_
    refine v_iload X dL_acts_174 176 rfl 0 rfl ?_
    refine v_iload_n X dL_acts_176 177 rfl 2 rfl ?_
    refine v_iconst X dL_acts_177 178 rfl ?_
    refine v_irem X (by omega) (by omega) (by omega) (by omega) dL_acts_178 179 rfl ?_
    refine v_if_le X (by omega) dL_acts_179 182 186 rfl (by decide) (fun c_59 => ?_) (fun c_59 => ?_)
    · skip
      refine v_iconst X dL_acts_186 187 rfl ?_
      refine v_iconst X dL_acts_187 188 rfl ?_
      refine v_iload_n X dL_acts_188 189 rfl 2 rfl ?_
      refine v_iconst X dL_acts_189 190 rfl ?_
      refine v_irem X (by omega) (by omega) (by omega) (by omega) dL_acts_190 191 rfl ?_
      refine v_iadd X dL_acts_191 192 rfl ?_
      refine v_mwS X hM (p_L_testify l hl E x co r_5 r_8 0 (1 + r_2 % 5) hO (by omega) (by omega) (by omega) (by omega)) kwL_testify ksL_testify kl_L_94 (As := [.ref x, .int (zI r_5), .int (zI r_8), .int (zI 0), .int (zI (1 + r_2 % 5))]) rfl rfl (rm_LW rfl (by omega) (by omega)) dL_acts_192 195 rfl (k' := 1) (n' := 6) rfl rfl (by intro q hq; simp only [Fr, Fs, or_false, false_or] at hq ⊢; omega) ⟨h_cm, h_co, h_hw⟩ (fun rv H60 lo60 hM hF hpo => ?_)
      obtain ⟨r_61, co1_62, rfl, hp_f_63, hw_0, hw_1⟩ := hpo
      have h_co : PR E (x + 1) (courtW E (x + 1) co1_62) H60 := hw_0
      clear hw_0
      have h_hw : HW E x H60 := hw_1
      clear hw_1
      replace h_cm := h_cm.kept hF 1 rfl (by intro q q1 q2 q3; simp only [Fs, or_false] at q3; omega)
      replace h_w := h_w.kept hF (by intro q q1 q3; simp only [Fs, or_false] at q3; omega)
      show V p l e (rmL 12 1 6) s m args below meth cd Q 7 H60 lo60 1 6 195 [(5, .int (zI r_8)), (4, .int (zI r_5)), (3, .int (zI r_2)), (0, .ref x), (1, .ref (E 107 0)), (2, .int (zI k))] [.int (zI r_61)]
      refine v_istore X dL_acts_195 197 rfl (by decide) (L' := [(6, .int (zI r_61)), (5, .int (zI r_8)), (4, .int (zI r_5)), (3, .int (zI r_2)), (0, .ref x), (1, .ref (E 107 0)), (2, .int (zI k))]) rfl ?_
      refine v_goto X dL_acts_197 280 (by decide) ?_
      refine v_widen (k' := 1) (n' := 6) (by omega) (by omega) ?_
      subst hQ; exact m_vret X hr hlk hM dL_acts_280 rfl ⟨co1_62, rfl, (by exact ac_call hA (by decide) (fun _ => by omega) (fun _ => by omega) hp_f_63), h_co, h_hw, h_w⟩
    · skip
      refine v_iconst X dL_acts_182 183 rfl ?_
      refine v_goto X dL_acts_183 187 (by decide) ?_
      refine v_iconst X dL_acts_187 188 rfl ?_
      refine v_iload_n X dL_acts_188 189 rfl 2 rfl ?_
      refine v_iconst X dL_acts_189 190 rfl ?_
      refine v_irem X (by omega) (by omega) (by omega) (by omega) dL_acts_190 191 rfl ?_
      refine v_iadd X dL_acts_191 192 rfl ?_
      refine v_mwS X hM (p_L_testify l hl E x co r_5 r_8 1 (1 + r_2 % 5) hO (by omega) (by omega) (by omega) (by omega)) kwL_testify ksL_testify kl_L_94 (As := [.ref x, .int (zI r_5), .int (zI r_8), .int (zI 1), .int (zI (1 + r_2 % 5))]) rfl rfl (rm_LW rfl (by omega) (by omega)) dL_acts_192 195 rfl (k' := 1) (n' := 6) rfl rfl (by intro q hq; simp only [Fr, Fs, or_false, false_or] at hq ⊢; omega) ⟨h_cm, h_co, h_hw⟩ (fun rv H64 lo64 hM hF hpo => ?_)
      obtain ⟨r_65, co1_66, rfl, hp_f_67, hw_0, hw_1⟩ := hpo
      have h_co : PR E (x + 1) (courtW E (x + 1) co1_66) H64 := hw_0
      clear hw_0
      have h_hw : HW E x H64 := hw_1
      clear hw_1
      replace h_cm := h_cm.kept hF 1 rfl (by intro q q1 q2 q3; simp only [Fs, or_false] at q3; omega)
      replace h_w := h_w.kept hF (by intro q q1 q3; simp only [Fs, or_false] at q3; omega)
      show V p l e (rmL 12 1 6) s m args below meth cd Q 7 H64 lo64 1 6 195 [(5, .int (zI r_8)), (4, .int (zI r_5)), (3, .int (zI r_2)), (0, .ref x), (1, .ref (E 107 0)), (2, .int (zI k))] [.int (zI r_65)]
      refine v_istore X dL_acts_195 197 rfl (by decide) (L' := [(6, .int (zI r_65)), (5, .int (zI r_8)), (4, .int (zI r_5)), (3, .int (zI r_2)), (0, .ref x), (1, .ref (E 107 0)), (2, .int (zI k))]) rfl ?_
      refine v_goto X dL_acts_197 280 (by decide) ?_
      refine v_widen (k' := 1) (n' := 6) (by omega) (by omega) ?_
      subst hQ; exact m_vret X hr hlk hM dL_acts_280 rfl ⟨co1_66, rfl, (by exact ac_call hA (by decide) (fun _ => by omega) (fun _ => by omega) hp_f_67), h_co, h_hw, h_w⟩
  · skip
    refine v_tabIn X (by omega) dL_acts_43 (by omega) (by omega) 7 (by omega) (off := 128) rfl 171 (by decide) ?_
    refine v_aload_n X dL_acts_171 172 rfl 3 rfl ?_
    refine v_iload X dL_acts_172 174 rfl 1 rfl ?_
    refine v_iload X dL_acts_174 176 rfl 0 rfl ?_
    refine v_iload_n X dL_acts_176 177 rfl 2 rfl ?_
    refine v_iconst X dL_acts_177 178 rfl ?_
    refine v_irem X (by omega) (by omega) (by omega) (by omega) dL_acts_178 179 rfl ?_
    refine v_if_le X (by omega) dL_acts_179 182 186 rfl (by decide) (fun c_68 => ?_) (fun c_68 => ?_)
    · skip
      refine v_iconst X dL_acts_186 187 rfl ?_
      refine v_iconst X dL_acts_187 188 rfl ?_
      refine v_iload_n X dL_acts_188 189 rfl 2 rfl ?_
      refine v_iconst X dL_acts_189 190 rfl ?_
      refine v_irem X (by omega) (by omega) (by omega) (by omega) dL_acts_190 191 rfl ?_
      refine v_iadd X dL_acts_191 192 rfl ?_
      refine v_mwS X hM (p_L_testify l hl E x co r_5 r_8 0 (1 + r_2 % 5) hO (by omega) (by omega) (by omega) (by omega)) kwL_testify ksL_testify kl_L_94 (As := [.ref x, .int (zI r_5), .int (zI r_8), .int (zI 0), .int (zI (1 + r_2 % 5))]) rfl rfl (rm_LW rfl (by omega) (by omega)) dL_acts_192 195 rfl (k' := 1) (n' := 6) rfl rfl (by intro q hq; simp only [Fr, Fs, or_false, false_or] at hq ⊢; omega) ⟨h_cm, h_co, h_hw⟩ (fun rv H69 lo69 hM hF hpo => ?_)
      obtain ⟨r_70, co1_71, rfl, hp_f_72, hw_0, hw_1⟩ := hpo
      have h_co : PR E (x + 1) (courtW E (x + 1) co1_71) H69 := hw_0
      clear hw_0
      have h_hw : HW E x H69 := hw_1
      clear hw_1
      replace h_cm := h_cm.kept hF 1 rfl (by intro q q1 q2 q3; simp only [Fs, or_false] at q3; omega)
      replace h_w := h_w.kept hF (by intro q q1 q3; simp only [Fs, or_false] at q3; omega)
      show V p l e (rmL 12 1 6) s m args below meth cd Q 7 H69 lo69 1 6 195 [(5, .int (zI r_8)), (4, .int (zI r_5)), (3, .int (zI r_2)), (0, .ref x), (1, .ref (E 107 0)), (2, .int (zI k))] [.int (zI r_70)]
      refine v_istore X dL_acts_195 197 rfl (by decide) (L' := [(6, .int (zI r_70)), (5, .int (zI r_8)), (4, .int (zI r_5)), (3, .int (zI r_2)), (0, .ref x), (1, .ref (E 107 0)), (2, .int (zI k))]) rfl ?_
      refine v_goto X dL_acts_197 280 (by decide) ?_
      refine v_widen (k' := 1) (n' := 6) (by omega) (by omega) ?_
      subst hQ; exact m_vret X hr hlk hM dL_acts_280 rfl ⟨co1_71, rfl, (by exact ac_call hA (by decide) (fun _ => by omega) (fun _ => by omega) hp_f_72), h_co, h_hw, h_w⟩
    · skip
      refine v_iconst X dL_acts_182 183 rfl ?_
      refine v_goto X dL_acts_183 187 (by decide) ?_
      refine v_iconst X dL_acts_187 188 rfl ?_
      refine v_iload_n X dL_acts_188 189 rfl 2 rfl ?_
      refine v_iconst X dL_acts_189 190 rfl ?_
      refine v_irem X (by omega) (by omega) (by omega) (by omega) dL_acts_190 191 rfl ?_
      refine v_iadd X dL_acts_191 192 rfl ?_
      refine v_mwS X hM (p_L_testify l hl E x co r_5 r_8 1 (1 + r_2 % 5) hO (by omega) (by omega) (by omega) (by omega)) kwL_testify ksL_testify kl_L_94 (As := [.ref x, .int (zI r_5), .int (zI r_8), .int (zI 1), .int (zI (1 + r_2 % 5))]) rfl rfl (rm_LW rfl (by omega) (by omega)) dL_acts_192 195 rfl (k' := 1) (n' := 6) rfl rfl (by intro q hq; simp only [Fr, Fs, or_false, false_or] at hq ⊢; omega) ⟨h_cm, h_co, h_hw⟩ (fun rv H73 lo73 hM hF hpo => ?_)
      obtain ⟨r_74, co1_75, rfl, hp_f_76, hw_0, hw_1⟩ := hpo
      have h_co : PR E (x + 1) (courtW E (x + 1) co1_75) H73 := hw_0
      clear hw_0
      have h_hw : HW E x H73 := hw_1
      clear hw_1
      replace h_cm := h_cm.kept hF 1 rfl (by intro q q1 q2 q3; simp only [Fs, or_false] at q3; omega)
      replace h_w := h_w.kept hF (by intro q q1 q3; simp only [Fs, or_false] at q3; omega)
      show V p l e (rmL 12 1 6) s m args below meth cd Q 7 H73 lo73 1 6 195 [(5, .int (zI r_8)), (4, .int (zI r_5)), (3, .int (zI r_2)), (0, .ref x), (1, .ref (E 107 0)), (2, .int (zI k))] [.int (zI r_74)]
      refine v_istore X dL_acts_195 197 rfl (by decide) (L' := [(6, .int (zI r_74)), (5, .int (zI r_8)), (4, .int (zI r_5)), (3, .int (zI r_2)), (0, .ref x), (1, .ref (E 107 0)), (2, .int (zI k))]) rfl ?_
      refine v_goto X dL_acts_197 280 (by decide) ?_
      refine v_widen (k' := 1) (n' := 6) (by omega) (by omega) ?_
      subst hQ; exact m_vret X hr hlk hM dL_acts_280 rfl ⟨co1_75, rfl, (by exact ac_call hA (by decide) (fun _ => by omega) (fun _ => by omega) hp_f_76), h_co, h_hw, h_w⟩
  · skip
    refine v_tabIn X (by omega) dL_acts_43 (by omega) (by omega) 8 (by omega) (off := 157) rfl 200 (by decide) ?_
    refine v_aload_n X dL_acts_200 201 rfl 3 rfl ?_
    refine v_iload X dL_acts_201 203 rfl 1 rfl ?_
    refine v_iload X dL_acts_203 205 rfl 0 rfl ?_
    refine v_iload_n X dL_acts_205 206 rfl 2 rfl ?_
    refine v_iconst X dL_acts_206 207 rfl ?_
    refine v_irem X (by omega) (by omega) (by omega) (by omega) dL_acts_207 208 rfl ?_
    refine v_if_ne X (by omega) dL_acts_208 211 215 rfl (by decide) (fun c_77 => ?_) (fun c_77 => ?_)
    · skip
      refine v_iconst X dL_acts_215 216 rfl ?_
      refine v_mwS X hM (p_L_question l hl E x co r_5 r_8 0 hO (by omega) (by omega) (by omega)) kwL_question ksL_question kl_L_97 (As := [.ref x, .int (zI r_5), .int (zI r_8), .int (zI 0)]) rfl rfl (rm_LW rfl (by omega) (by omega)) dL_acts_216 219 rfl (k' := 1) (n' := 6) rfl rfl (by intro q hq; simp only [Fr, Fs, or_false, false_or] at hq ⊢; omega) ⟨h_cm, h_co, h_hw⟩ (fun rv H78 lo78 hM hF hpo => ?_)
      obtain ⟨r_79, co1_80, rfl, hp_f_81, hw_0, hw_1⟩ := hpo
      have h_co : PR E (x + 1) (courtW E (x + 1) co1_80) H78 := hw_0
      clear hw_0
      have h_hw : HW E x H78 := hw_1
      clear hw_1
      replace h_cm := h_cm.kept hF 1 rfl (by intro q q1 q2 q3; simp only [Fs, or_false] at q3; omega)
      replace h_w := h_w.kept hF (by intro q q1 q3; simp only [Fs, or_false] at q3; omega)
      show V p l e (rmL 12 1 6) s m args below meth cd Q 7 H78 lo78 1 6 219 [(5, .int (zI r_8)), (4, .int (zI r_5)), (3, .int (zI r_2)), (0, .ref x), (1, .ref (E 107 0)), (2, .int (zI k))] [.int (zI r_79)]
      refine v_istore X dL_acts_219 221 rfl (by decide) (L' := [(6, .int (zI r_79)), (5, .int (zI r_8)), (4, .int (zI r_5)), (3, .int (zI r_2)), (0, .ref x), (1, .ref (E 107 0)), (2, .int (zI k))]) rfl ?_
      refine v_goto X dL_acts_221 280 (by decide) ?_
      refine v_widen (k' := 1) (n' := 6) (by omega) (by omega) ?_
      subst hQ; exact m_vret X hr hlk hM dL_acts_280 rfl ⟨co1_80, rfl, (by exact ac_call hA (by decide) (fun _ => by omega) (fun _ => by omega) hp_f_81), h_co, h_hw, h_w⟩
    · skip
      refine v_iconst X dL_acts_211 212 rfl ?_
      refine v_goto X dL_acts_212 216 (by decide) ?_
      refine v_mwS X hM (p_L_question l hl E x co r_5 r_8 1 hO (by omega) (by omega) (by omega)) kwL_question ksL_question kl_L_97 (As := [.ref x, .int (zI r_5), .int (zI r_8), .int (zI 1)]) rfl rfl (rm_LW rfl (by omega) (by omega)) dL_acts_216 219 rfl (k' := 1) (n' := 6) rfl rfl (by intro q hq; simp only [Fr, Fs, or_false, false_or] at hq ⊢; omega) ⟨h_cm, h_co, h_hw⟩ (fun rv H82 lo82 hM hF hpo => ?_)
      obtain ⟨r_83, co1_84, rfl, hp_f_85, hw_0, hw_1⟩ := hpo
      have h_co : PR E (x + 1) (courtW E (x + 1) co1_84) H82 := hw_0
      clear hw_0
      have h_hw : HW E x H82 := hw_1
      clear hw_1
      replace h_cm := h_cm.kept hF 1 rfl (by intro q q1 q2 q3; simp only [Fs, or_false] at q3; omega)
      replace h_w := h_w.kept hF (by intro q q1 q3; simp only [Fs, or_false] at q3; omega)
      show V p l e (rmL 12 1 6) s m args below meth cd Q 7 H82 lo82 1 6 219 [(5, .int (zI r_8)), (4, .int (zI r_5)), (3, .int (zI r_2)), (0, .ref x), (1, .ref (E 107 0)), (2, .int (zI k))] [.int (zI r_83)]
      refine v_istore X dL_acts_219 221 rfl (by decide) (L' := [(6, .int (zI r_83)), (5, .int (zI r_8)), (4, .int (zI r_5)), (3, .int (zI r_2)), (0, .ref x), (1, .ref (E 107 0)), (2, .int (zI k))]) rfl ?_
      refine v_goto X dL_acts_221 280 (by decide) ?_
      refine v_widen (k' := 1) (n' := 6) (by omega) (by omega) ?_
      subst hQ; exact m_vret X hr hlk hM dL_acts_280 rfl ⟨co1_84, rfl, (by exact ac_call hA (by decide) (fun _ => by omega) (fun _ => by omega) hp_f_85), h_co, h_hw, h_w⟩
  · skip
    refine v_tabIn X (by omega) dL_acts_43 (by omega) (by omega) 9 (by omega) (off := 157) rfl 200 (by decide) ?_
    refine v_aload_n X dL_acts_200 201 rfl 3 rfl ?_
    refine v_iload X dL_acts_201 203 rfl 1 rfl ?_
    refine v_iload X dL_acts_203 205 rfl 0 rfl ?_
    refine v_iload_n X dL_acts_205 206 rfl 2 rfl ?_
    refine v_iconst X dL_acts_206 207 rfl ?_
    refine v_irem X (by omega) (by omega) (by omega) (by omega) dL_acts_207 208 rfl ?_
    refine v_if_ne X (by omega) dL_acts_208 211 215 rfl (by decide) (fun c_86 => ?_) (fun c_86 => ?_)
    · skip
      refine v_iconst X dL_acts_215 216 rfl ?_
      refine v_mwS X hM (p_L_question l hl E x co r_5 r_8 0 hO (by omega) (by omega) (by omega)) kwL_question ksL_question kl_L_97 (As := [.ref x, .int (zI r_5), .int (zI r_8), .int (zI 0)]) rfl rfl (rm_LW rfl (by omega) (by omega)) dL_acts_216 219 rfl (k' := 1) (n' := 6) rfl rfl (by intro q hq; simp only [Fr, Fs, or_false, false_or] at hq ⊢; omega) ⟨h_cm, h_co, h_hw⟩ (fun rv H87 lo87 hM hF hpo => ?_)
      obtain ⟨r_88, co1_89, rfl, hp_f_90, hw_0, hw_1⟩ := hpo
      have h_co : PR E (x + 1) (courtW E (x + 1) co1_89) H87 := hw_0
      clear hw_0
      have h_hw : HW E x H87 := hw_1
      clear hw_1
      replace h_cm := h_cm.kept hF 1 rfl (by intro q q1 q2 q3; simp only [Fs, or_false] at q3; omega)
      replace h_w := h_w.kept hF (by intro q q1 q3; simp only [Fs, or_false] at q3; omega)
      show V p l e (rmL 12 1 6) s m args below meth cd Q 7 H87 lo87 1 6 219 [(5, .int (zI r_8)), (4, .int (zI r_5)), (3, .int (zI r_2)), (0, .ref x), (1, .ref (E 107 0)), (2, .int (zI k))] [.int (zI r_88)]
      refine v_istore X dL_acts_219 221 rfl (by decide) (L' := [(6, .int (zI r_88)), (5, .int (zI r_8)), (4, .int (zI r_5)), (3, .int (zI r_2)), (0, .ref x), (1, .ref (E 107 0)), (2, .int (zI k))]) rfl ?_
      refine v_goto X dL_acts_221 280 (by decide) ?_
      refine v_widen (k' := 1) (n' := 6) (by omega) (by omega) ?_
      subst hQ; exact m_vret X hr hlk hM dL_acts_280 rfl ⟨co1_89, rfl, (by exact ac_call hA (by decide) (fun _ => by omega) (fun _ => by omega) hp_f_90), h_co, h_hw, h_w⟩
    · skip
      refine v_iconst X dL_acts_211 212 rfl ?_
      refine v_goto X dL_acts_212 216 (by decide) ?_
      refine v_mwS X hM (p_L_question l hl E x co r_5 r_8 1 hO (by omega) (by omega) (by omega)) kwL_question ksL_question kl_L_97 (As := [.ref x, .int (zI r_5), .int (zI r_8), .int (zI 1)]) rfl rfl (rm_LW rfl (by omega) (by omega)) dL_acts_216 219 rfl (k' := 1) (n' := 6) rfl rfl (by intro q hq; simp only [Fr, Fs, or_false, false_or] at hq ⊢; omega) ⟨h_cm, h_co, h_hw⟩ (fun rv H91 lo91 hM hF hpo => ?_)
      obtain ⟨r_92, co1_93, rfl, hp_f_94, hw_0, hw_1⟩ := hpo
      have h_co : PR E (x + 1) (courtW E (x + 1) co1_93) H91 := hw_0
      clear hw_0
      have h_hw : HW E x H91 := hw_1
      clear hw_1
      replace h_cm := h_cm.kept hF 1 rfl (by intro q q1 q2 q3; simp only [Fs, or_false] at q3; omega)
      replace h_w := h_w.kept hF (by intro q q1 q3; simp only [Fs, or_false] at q3; omega)
      show V p l e (rmL 12 1 6) s m args below meth cd Q 7 H91 lo91 1 6 219 [(5, .int (zI r_8)), (4, .int (zI r_5)), (3, .int (zI r_2)), (0, .ref x), (1, .ref (E 107 0)), (2, .int (zI k))] [.int (zI r_92)]
      refine v_istore X dL_acts_219 221 rfl (by decide) (L' := [(6, .int (zI r_92)), (5, .int (zI r_8)), (4, .int (zI r_5)), (3, .int (zI r_2)), (0, .ref x), (1, .ref (E 107 0)), (2, .int (zI k))]) rfl ?_
      refine v_goto X dL_acts_221 280 (by decide) ?_
      refine v_widen (k' := 1) (n' := 6) (by omega) (by omega) ?_
      subst hQ; exact m_vret X hr hlk hM dL_acts_280 rfl ⟨co1_93, rfl, (by exact ac_call hA (by decide) (fun _ => by omega) (fun _ => by omega) hp_f_94), h_co, h_hw, h_w⟩
  · skip
    refine v_tabIn X (by omega) dL_acts_43 (by omega) (by omega) 10 (by omega) (off := 181) rfl 224 (by decide) ?_
    refine v_aload_n X dL_acts_224 225 rfl 3 rfl ?_
    refine v_iload X dL_acts_225 227 rfl 1 rfl ?_
    refine v_mwS X hM (p_L_decide l hl E x co r_5 hO (by omega)) kwL_decide ksL_decide kl_L_100 (As := [.ref x, .int (zI r_5)]) rfl rfl (rm_LW rfl (by omega) (by omega)) dL_acts_227 230 rfl (k' := 1) (n' := 6) rfl rfl (by intro q hq; simp only [Fr, Fs, or_false, false_or] at hq ⊢; omega) ⟨h_cm, h_co, h_hw⟩ (fun rv H95 lo95 hM hF hpo => ?_)
    obtain ⟨r_96, co1_97, rfl, hp_f_98, hw_0, hw_1⟩ := hpo
    have h_co : PR E (x + 1) (courtW E (x + 1) co1_97) H95 := hw_0
    clear hw_0
    have h_hw : HW E x H95 := hw_1
    clear hw_1
    replace h_cm := h_cm.kept hF 1 rfl (by intro q q1 q2 q3; simp only [Fs, or_false] at q3; omega)
    replace h_w := h_w.kept hF (by intro q q1 q3; simp only [Fs, or_false] at q3; omega)
    show V p l e (rmL 12 1 6) s m args below meth cd Q 7 H95 lo95 1 6 230 [(5, .int (zI r_8)), (4, .int (zI r_5)), (3, .int (zI r_2)), (0, .ref x), (1, .ref (E 107 0)), (2, .int (zI k))] [.int (zI r_96)]
    refine v_istore X dL_acts_230 232 rfl (by decide) (L' := [(6, .int (zI r_96)), (5, .int (zI r_8)), (4, .int (zI r_5)), (3, .int (zI r_2)), (0, .ref x), (1, .ref (E 107 0)), (2, .int (zI k))]) rfl ?_
    refine v_goto X dL_acts_232 280 (by decide) ?_
    refine v_widen (k' := 1) (n' := 6) (by omega) (by omega) ?_
    subst hQ; exact m_vret X hr hlk hM dL_acts_280 rfl ⟨co1_97, rfl, (by exact ac_call hA (by decide) (fun _ => by omega) (fun _ => by omega) hp_f_98), h_co, h_hw, h_w⟩
  · skip
    refine v_tabIn X (by omega) dL_acts_43 (by omega) (by omega) 11 (by omega) (off := 181) rfl 224 (by decide) ?_
    refine v_aload_n X dL_acts_224 225 rfl 3 rfl ?_
    refine v_iload X dL_acts_225 227 rfl 1 rfl ?_
    refine v_mwS X hM (p_L_decide l hl E x co r_5 hO (by omega)) kwL_decide ksL_decide kl_L_100 (As := [.ref x, .int (zI r_5)]) rfl rfl (rm_LW rfl (by omega) (by omega)) dL_acts_227 230 rfl (k' := 1) (n' := 6) rfl rfl (by intro q hq; simp only [Fr, Fs, or_false, false_or] at hq ⊢; omega) ⟨h_cm, h_co, h_hw⟩ (fun rv H99 lo99 hM hF hpo => ?_)
    obtain ⟨r_100, co1_101, rfl, hp_f_102, hw_0, hw_1⟩ := hpo
    have h_co : PR E (x + 1) (courtW E (x + 1) co1_101) H99 := hw_0
    clear hw_0
    have h_hw : HW E x H99 := hw_1
    clear hw_1
    replace h_cm := h_cm.kept hF 1 rfl (by intro q q1 q2 q3; simp only [Fs, or_false] at q3; omega)
    replace h_w := h_w.kept hF (by intro q q1 q3; simp only [Fs, or_false] at q3; omega)
    show V p l e (rmL 12 1 6) s m args below meth cd Q 7 H99 lo99 1 6 230 [(5, .int (zI r_8)), (4, .int (zI r_5)), (3, .int (zI r_2)), (0, .ref x), (1, .ref (E 107 0)), (2, .int (zI k))] [.int (zI r_100)]
    refine v_istore X dL_acts_230 232 rfl (by decide) (L' := [(6, .int (zI r_100)), (5, .int (zI r_8)), (4, .int (zI r_5)), (3, .int (zI r_2)), (0, .ref x), (1, .ref (E 107 0)), (2, .int (zI k))]) rfl ?_
    refine v_goto X dL_acts_232 280 (by decide) ?_
    refine v_widen (k' := 1) (n' := 6) (by omega) (by omega) ?_
    subst hQ; exact m_vret X hr hlk hM dL_acts_280 rfl ⟨co1_101, rfl, (by exact ac_call hA (by decide) (fun _ => by omega) (fun _ => by omega) hp_f_102), h_co, h_hw, h_w⟩
  · skip
    refine v_tabIn X (by omega) dL_acts_43 (by omega) (by omega) 12 (by omega) (off := 192) rfl 235 (by decide) ?_
    refine v_aload_n X dL_acts_235 236 rfl 3 rfl ?_
    refine v_iload X dL_acts_236 238 rfl 1 rfl ?_
    refine v_mwS X hM (p_L_appeal l hl E x co r_5 hO (by omega)) kwL_appeal ksL_appeal kl_L_102 (As := [.ref x, .int (zI r_5)]) rfl rfl (rm_LW rfl (by omega) (by omega)) dL_acts_238 241 rfl (k' := 1) (n' := 6) rfl rfl (by intro q hq; simp only [Fr, Fs, or_false, false_or] at hq ⊢; omega) ⟨h_cm, h_co, h_hw⟩ (fun rv H103 lo103 hM hF hpo => ?_)
    obtain ⟨r_104, co1_105, rfl, hp_f_106, hw_0, hw_1⟩ := hpo
    have h_co : PR E (x + 1) (courtW E (x + 1) co1_105) H103 := hw_0
    clear hw_0
    have h_hw : HW E x H103 := hw_1
    clear hw_1
    replace h_cm := h_cm.kept hF 1 rfl (by intro q q1 q2 q3; simp only [Fs, or_false] at q3; omega)
    replace h_w := h_w.kept hF (by intro q q1 q3; simp only [Fs, or_false] at q3; omega)
    show V p l e (rmL 12 1 6) s m args below meth cd Q 7 H103 lo103 1 6 241 [(5, .int (zI r_8)), (4, .int (zI r_5)), (3, .int (zI r_2)), (0, .ref x), (1, .ref (E 107 0)), (2, .int (zI k))] [.int (zI r_104)]
    refine v_istore X dL_acts_241 243 rfl (by decide) (L' := [(6, .int (zI r_104)), (5, .int (zI r_8)), (4, .int (zI r_5)), (3, .int (zI r_2)), (0, .ref x), (1, .ref (E 107 0)), (2, .int (zI k))]) rfl ?_
    refine v_goto X dL_acts_243 280 (by decide) ?_
    refine v_widen (k' := 1) (n' := 6) (by omega) (by omega) ?_
    subst hQ; exact m_vret X hr hlk hM dL_acts_280 rfl ⟨co1_105, rfl, (by exact ac_call hA (by decide) (fun _ => by omega) (fun _ => by omega) hp_f_106), h_co, h_hw, h_w⟩
  · skip
    refine v_tabIn X (by omega) dL_acts_43 (by omega) (by omega) 13 (by omega) (off := 192) rfl 235 (by decide) ?_
    refine v_aload_n X dL_acts_235 236 rfl 3 rfl ?_
    refine v_iload X dL_acts_236 238 rfl 1 rfl ?_
    refine v_mwS X hM (p_L_appeal l hl E x co r_5 hO (by omega)) kwL_appeal ksL_appeal kl_L_102 (As := [.ref x, .int (zI r_5)]) rfl rfl (rm_LW rfl (by omega) (by omega)) dL_acts_238 241 rfl (k' := 1) (n' := 6) rfl rfl (by intro q hq; simp only [Fr, Fs, or_false, false_or] at hq ⊢; omega) ⟨h_cm, h_co, h_hw⟩ (fun rv H107 lo107 hM hF hpo => ?_)
    obtain ⟨r_108, co1_109, rfl, hp_f_110, hw_0, hw_1⟩ := hpo
    have h_co : PR E (x + 1) (courtW E (x + 1) co1_109) H107 := hw_0
    clear hw_0
    have h_hw : HW E x H107 := hw_1
    clear hw_1
    replace h_cm := h_cm.kept hF 1 rfl (by intro q q1 q2 q3; simp only [Fs, or_false] at q3; omega)
    replace h_w := h_w.kept hF (by intro q q1 q3; simp only [Fs, or_false] at q3; omega)
    show V p l e (rmL 12 1 6) s m args below meth cd Q 7 H107 lo107 1 6 241 [(5, .int (zI r_8)), (4, .int (zI r_5)), (3, .int (zI r_2)), (0, .ref x), (1, .ref (E 107 0)), (2, .int (zI k))] [.int (zI r_108)]
    refine v_istore X dL_acts_241 243 rfl (by decide) (L' := [(6, .int (zI r_108)), (5, .int (zI r_8)), (4, .int (zI r_5)), (3, .int (zI r_2)), (0, .ref x), (1, .ref (E 107 0)), (2, .int (zI k))]) rfl ?_
    refine v_goto X dL_acts_243 280 (by decide) ?_
    refine v_widen (k' := 1) (n' := 6) (by omega) (by omega) ?_
    subst hQ; exact m_vret X hr hlk hM dL_acts_280 rfl ⟨co1_109, rfl, (by exact ac_call hA (by decide) (fun _ => by omega) (fun _ => by omega) hp_f_110), h_co, h_hw, h_w⟩
  · skip
    refine v_tabIn X (by omega) dL_acts_43 (by omega) (by omega) 14 (by omega) (off := 203) rfl 246 (by decide) ?_
    refine v_aload_n X dL_acts_246 247 rfl 3 rfl ?_
    refine v_iload X dL_acts_247 249 rfl 1 rfl ?_
    refine v_mwS X hM (p_L_close l hl E x co r_5 hO (by omega)) kwL_close ksL_close kl_L_104 (As := [.ref x, .int (zI r_5)]) rfl rfl (rm_LW rfl (by omega) (by omega)) dL_acts_249 252 rfl (k' := 1) (n' := 6) rfl rfl (by intro q hq; simp only [Fr, Fs, or_false, false_or] at hq ⊢; omega) ⟨h_cm, h_co, h_hw⟩ (fun rv H111 lo111 hM hF hpo => ?_)
    obtain ⟨r_112, co1_113, rfl, hp_f_114, hw_0, hw_1⟩ := hpo
    have h_co : PR E (x + 1) (courtW E (x + 1) co1_113) H111 := hw_0
    clear hw_0
    have h_hw : HW E x H111 := hw_1
    clear hw_1
    replace h_cm := h_cm.kept hF 1 rfl (by intro q q1 q2 q3; simp only [Fs, or_false] at q3; omega)
    replace h_w := h_w.kept hF (by intro q q1 q3; simp only [Fs, or_false] at q3; omega)
    show V p l e (rmL 12 1 6) s m args below meth cd Q 7 H111 lo111 1 6 252 [(5, .int (zI r_8)), (4, .int (zI r_5)), (3, .int (zI r_2)), (0, .ref x), (1, .ref (E 107 0)), (2, .int (zI k))] [.int (zI r_112)]
    refine v_istore X dL_acts_252 254 rfl (by decide) (L' := [(6, .int (zI r_112)), (5, .int (zI r_8)), (4, .int (zI r_5)), (3, .int (zI r_2)), (0, .ref x), (1, .ref (E 107 0)), (2, .int (zI k))]) rfl ?_
    refine v_goto X dL_acts_254 280 (by decide) ?_
    refine v_widen (k' := 1) (n' := 6) (by omega) (by omega) ?_
    subst hQ; exact m_vret X hr hlk hM dL_acts_280 rfl ⟨co1_113, rfl, (by exact ac_call hA (by decide) (fun _ => by omega) (fun _ => by omega) hp_f_114), h_co, h_hw, h_w⟩
  · skip
    refine v_tabOut X (by omega) dL_acts_43 (by omega) 257 (by decide) ?_
    refine v_aload_n X dL_acts_257 258 rfl 3 rfl ?_
    refine v_aload_n X dL_acts_258 259 rfl 3 rfl ?_
    refine v_rdV X hM.C (PW.app h_cm.1 h_co.1) (c_X9_docketLength l E x co 0 (-1) (-1) 0 hO) kvX9_docketLength kiX9_docketLength kl_L_106 rfl rfl (As := []) rfl rfl (rm_L0 rfl (by omega) (by omega)) dL_acts_259 262 rfl ?_
    show V p l e (rmL 12 1 6) s m args below meth cd Q 7 H10 lo10 0 0 262 [(5, .int (zI r_8)), (4, .int (zI r_5)), (3, .int (zI r_2)), (0, .ref x), (1, .ref (E 107 0)), (2, .int (zI k))] [.int (zI (sumZ (fun j => bz (co 3 j = 0)) (co 0 0).toNat)), .ref x]
    refine v_if_le X (by omega) dL_acts_262 265 273 rfl (by decide) (fun c_115 => ?_) (fun c_115 => ?_)
    · skip
      refine v_iload X dL_acts_273 275 rfl 1 rfl ?_
      refine v_mwS X hM (p_L_decide l hl E x co r_5 hO (by omega)) kwL_decide ksL_decide kl_L_100 (As := [.ref x, .int (zI r_5)]) rfl rfl (rm_LW rfl (by omega) (by omega)) dL_acts_275 278 rfl (k' := 1) (n' := 6) rfl rfl (by intro q hq; simp only [Fr, Fs, or_false, false_or] at hq ⊢; omega) ⟨h_cm, h_co, h_hw⟩ (fun rv H116 lo116 hM hF hpo => ?_)
      obtain ⟨r_117, co1_118, rfl, hp_f_119, hw_0, hw_1⟩ := hpo
      have h_co : PR E (x + 1) (courtW E (x + 1) co1_118) H116 := hw_0
      clear hw_0
      have h_hw : HW E x H116 := hw_1
      clear hw_1
      replace h_cm := h_cm.kept hF 1 rfl (by intro q q1 q2 q3; simp only [Fs, or_false] at q3; omega)
      replace h_w := h_w.kept hF (by intro q q1 q3; simp only [Fs, or_false] at q3; omega)
      show V p l e (rmL 12 1 6) s m args below meth cd Q 7 H116 lo116 1 6 278 [(5, .int (zI r_8)), (4, .int (zI r_5)), (3, .int (zI r_2)), (0, .ref x), (1, .ref (E 107 0)), (2, .int (zI k))] [.int (zI r_117)]
      refine v_istore X dL_acts_278 280 rfl (by decide) (L' := [(6, .int (zI r_117)), (5, .int (zI r_8)), (4, .int (zI r_5)), (3, .int (zI r_2)), (0, .ref x), (1, .ref (E 107 0)), (2, .int (zI k))]) rfl ?_
      refine v_widen (k' := 1) (n' := 6) (by omega) (by omega) ?_
      subst hQ; exact m_vret X hr hlk hM dL_acts_280 rfl ⟨co1_118, rfl, (by exact ac_call hA (by decide) (fun _ => by omega) (fun _ => by omega) hp_f_119), h_co, h_hw, h_w⟩
    · skip
      refine v_aload_n X dL_acts_265 266 rfl 3 rfl ?_
      refine v_iconst X dL_acts_266 267 rfl ?_
      have hdl := (dk_all co (fun _ => 0) (co 0 0).toNat).2.2
      refine v_muV X hM (h_cm.1) (p_docketAt l E x co 0 v T hO (by omega) (by omega)) kvX9_docketAt kiX9_docketAt kl_L_61 (q0 := 0) rfl rfl (As := [.int (zI 0)]) rfl rfl (rm_L rfl (by omega) (by omega)) dL_acts_267 270 rfl (k' := 0) (n' := 0) rfl rfl (by intro q hq; simp only [Fr, Fs, or_false, false_or] at hq ⊢; omega) ⟨h_cm, h_co, h_w⟩ (fun rv H120 lo120 hM hF hpo => ?_)
      obtain ⟨rfl, hw_0⟩ := hpo
      have h_w : RW E x v T H120 := hw_0
      clear hw_0
      replace h_cm := h_cm.kept hF 1 rfl (by intro q q1 q2 q3; simp only [Fs, or_false] at q3; omega)
      replace h_co := h_co.kept hF 28 rfl (by intro q q1 q2 q3; simp only [Fs, or_false] at q3; omega)
      replace h_hw := h_hw.kept hF (by intro q q1 q2 q3; simp only [Fs, or_false] at q3; omega)
      show V p l e (rmL 12 1 6) s m args below meth cd Q 7 H120 lo120 0 0 270 [(5, .int (zI r_8)), (4, .int (zI r_5)), (3, .int (zI r_2)), (0, .ref x), (1, .ref (E 107 0)), (2, .int (zI k))] [.int (zI (dpC co 0)), .ref x]
      refine v_goto X dL_acts_270 275 (by decide) ?_
      have hb_121 := (dpC_b co 0)
      refine v_mwS X hM (p_L_decide l hl E x co (dpC co 0) hO (by omega)) kwL_decide ksL_decide kl_L_100 (As := [.ref x, .int (zI (dpC co 0))]) rfl rfl (rm_LW rfl (by omega) (by omega)) dL_acts_275 278 rfl (k' := 1) (n' := 6) rfl rfl (by intro q hq; simp only [Fr, Fs, or_false, false_or] at hq ⊢; omega) ⟨h_cm, h_co, h_hw⟩ (fun rv H122 lo122 hM hF hpo => ?_)
      obtain ⟨r_123, co1_124, rfl, hp_f_125, hw_0, hw_1⟩ := hpo
      have h_co : PR E (x + 1) (courtW E (x + 1) co1_124) H122 := hw_0
      clear hw_0
      have h_hw : HW E x H122 := hw_1
      clear hw_1
      replace h_cm := h_cm.kept hF 1 rfl (by intro q q1 q2 q3; simp only [Fs, or_false] at q3; omega)
      replace h_w := h_w.kept hF (by intro q q1 q3; simp only [Fs, or_false] at q3; omega)
      show V p l e (rmL 12 1 6) s m args below meth cd Q 7 H122 lo122 1 6 278 [(5, .int (zI r_8)), (4, .int (zI r_5)), (3, .int (zI r_2)), (0, .ref x), (1, .ref (E 107 0)), (2, .int (zI k))] [.int (zI r_123)]
      refine v_istore X dL_acts_278 280 rfl (by decide) (L' := [(6, .int (zI r_123)), (5, .int (zI r_8)), (4, .int (zI r_5)), (3, .int (zI r_2)), (0, .ref x), (1, .ref (E 107 0)), (2, .int (zI k))]) rfl ?_
      refine v_widen (k' := 1) (n' := 6) (by omega) (by omega) ?_
      subst hQ; exact m_vret X hr hlk hM dL_acts_280 rfl ⟨co1_124, rfl, (by exact ac_call hA (by decide) (fun _ => by omega) (fun _ => by omega) hp_f_125), h_co, h_hw, h_w⟩
