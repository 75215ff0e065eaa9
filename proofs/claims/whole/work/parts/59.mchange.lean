set_option maxHeartbeats 4000000 in
set_option maxRecDepth 20000 in
theorem c_X10_charges_ok (l : Launch) (E : Nat → Nat → Nat) (b : Nat) (mo : Nat → Int → Int) (co : Nat → Int → Int) (d : Int) (o : Int) (hO : OkC co) (hR : RelC co (mo 1)) (hI : TsI co) (gd : Rg d) (go : Rg o) (hf : flC co 0 d o 0 = 0) (hSt : StI co) : Mu l yX10_charges cX10_charges 5 (some .int) 2 0 0 E [(b, 5)] [.ref b, .int (zI d), .int (zI o)] (fun H => PR E b (modelW E b mo) H) (fun rv H => ∃ g1 : Int → Int, rv = some (.int (zI 0)) ∧ RelC (opC co 0 d o 0 0) g1 ∧ (∀ i : Int, 492 ≤ i → g1 i = mo 1 i) ∧ PR E b (modelW E b (updC (updC mo 0 (updZ (mo 0) 4 (opV co 0 d o 0 0))) 1 g1)) H) := by
  refine Mu.start (own := RX10) rfl (by decide +kernel) (Nat.le_of_ble_eq_true rfl) ?_
  intro p e s m below meth cd args Q hQ X hr hlk hnm hM hPr
  have h_mo := hPr
  have hb0 := hO.b0
  have hbw := hO.bw
  have hr0 := hR.s0
  have hr1 := hR.s1
  have hq := flC_0 hf
  have hse := hSt.1 (co 0 0) (by omega) (by omega)
  refine v_iload_n X dX10_charges_0 1 rfl 1 rfl ?_
  refine v_rdS X hM.C (ws0 E s.heap) (c_X10_isDefendant l E d gd) kvX10_isDefendant ksX10_isDefendant kl_X10_65 (As := [.int (zI d)]) rfl rfl rfl dX10_charges_1 4 rfl ?_
  show V p l e (rmL 2 0 0) s m args below meth cd Q 5 s.heap [] 0 0 4 [(0, .ref b), (1, .int (zI d)), (2, .int (zI o))] [.int (zI (bz (0 ≤ d ∧ d < 6)))]
  refine v_bif_eq X dX10_charges_4 7 14 rfl (by decide) (fun c_1 => ?_) (fun c_1 => ?_)
  · skip
    exfalso; omega
  · skip
    refine v_iload_n X dX10_charges_7 8 rfl 2 rfl ?_
    refine v_rdS X hM.C (ws0 E s.heap) (c_X10_isOffence l E o go) kvX10_isOffence ksX10_isOffence kl_X10_69 (As := [.int (zI o)]) rfl rfl rfl dX10_charges_8 11 rfl ?_
    show V p l e (rmL 2 0 0) s m args below meth cd Q 5 s.heap [] 0 0 11 [(0, .ref b), (1, .int (zI d)), (2, .int (zI o))] [.int (zI (bz (0 ≤ o ∧ o < 5)))]
    refine v_bif_ne X dX10_charges_11 14 16 rfl (by decide) (fun c_2 => ?_) (fun c_2 => ?_)
    · skip
      refine v_aload_n X dX10_charges_16 17 rfl 0 rfl ?_
      refine v_getf X hM.C h_mo.1 inX10 0 rfl rfl 1 (by decide) kf_X10_9 (fun _ h => h) rfl dX10_charges_17 20 rfl ?_
      refine v_iconst X dX10_charges_20 21 rfl ?_
      refine v_iald X hM.C h_mo.1 1 rfl (by omega) (by omega) (by omega) dX10_charges_21 22 rfl ?_
      show V p l e (rmL 2 0 0) s m args below meth cd Q 5 s.heap [] 0 0 22 [(0, .ref b), (1, .int (zI d)), (2, .int (zI o))] [.int (zI (mo 1 0))]
      refine v_istore_n X dX10_charges_22 23 rfl rfl (by decide) (L' := [(3, .int (zI (mo 1 0))), (0, .ref b), (1, .int (zI d)), (2, .int (zI o))]) rfl ?_
      refine V_L (L' := [(3, .int (zI (co 0 0))), (0, .ref b), (1, .int (zI d)), (2, .int (zI o))]) (LC (vz (by omega)) (LC rfl (LC rfl (LC rfl rfl)))) ?_
      refine v_aload_n X dX10_charges_23 24 rfl 1 rfl ?_
      refine v_iload_n X dX10_charges_24 25 rfl 2 rfl ?_
      refine v_iload_n X dX10_charges_25 26 rfl 3 rfl ?_
      refine v_rdV X hM.C h_mo.1 (c_X10_findCase l E b mo co d o hO hR gd go) kvX10_findCase kiX10_findCase kl_X10_72 rfl rfl (As := [.int (zI d), .int (zI o)]) rfl rfl rfl dX10_charges_26 29 rfl ?_
      show V p l e (rmL 2 0 0) s m args below meth cd Q 5 s.heap [] 0 0 29 [(3, .int (zI (co 0 0))), (0, .ref b), (1, .int (zI d)), (2, .int (zI o))] [.int (zI (firstZ (fun j => co 1 j = d ∧ co 2 j = o) (co 0 0).toNat))]
      have hb_3 := hO.b0
      have hf_4 := firstZ_b (fun j => co 1 j = d ∧ co 2 j = o) (co 0 0).toNat
      refine v_if_ge X (by omega) dX10_charges_29 32 38 rfl (by decide) (fun c_5 => ?_) (fun c_5 => ?_)
      · skip
        exfalso; omega
      · skip
        refine v_iload_n X dX10_charges_32 33 rfl 0 rfl ?_
        refine v_bipush X dX10_charges_33 35 rfl rfl ?_
        refine v_icmp_ne X (by omega) (by omega) dX10_charges_35 38 40 rfl (by decide) (fun c_6 => ?_) (fun c_6 => ?_)
        · skip
          refine v_aload_n X dX10_charges_40 41 rfl 1 rfl ?_
          refine v_getf X hM.C h_mo.1 inX10 0 rfl rfl 1 (by decide) kf_X10_9 (fun _ h => h) rfl dX10_charges_41 44 rfl ?_
          refine v_iconst X dX10_charges_44 45 rfl ?_
          refine v_dup2 X dX10_charges_45 46 rfl rfl rfl ?_
          refine v_iald X hM.C h_mo.1 1 rfl (by omega) (by omega) (by omega) dX10_charges_46 47 rfl ?_
          show V p l e (rmL 2 0 0) s m args below meth cd Q 5 s.heap [] 0 0 47 [(3, .int (zI (co 0 0))), (0, .ref b), (1, .int (zI d)), (2, .int (zI o))] [.int (zI (mo 1 0)), .int (zI 0), .ref (b + 1)]
          refine v_iconst X dX10_charges_47 48 rfl ?_
          refine v_iadd X dX10_charges_48 49 rfl ?_
          refine v_iast X hM h_mo 1 rfl (by omega) (by omega) (by omega) (Or.inl (fsH (by omega) (by omega))) dX10_charges_49 50 rfl (ws' := modelW E b (updC mo 1 (updZ (mo 1) 0 (mo 1 0 + 1)))) rfl (fun H7 lo7 hzz hM hF h_mo => ?_)
          clear hzz
          refine v_iconst X dX10_charges_50 51 rfl ?_
          refine v_istore X dX10_charges_51 53 rfl (by decide) (L' := [(4, .int (zI 0)), (3, .int (zI (co 0 0))), (0, .ref b), (1, .int (zI d)), (2, .int (zI o))]) rfl ?_
          refine V_L (L' := [(4, .int (zI 0)), (3, .int (zI (co 0 0))), (0, .ref b), (1, .int (zI d)), (2, .int (zI o))]) (LC (vz (by rfl)) (LC rfl (LC rfl (LC rfl (LC rfl rfl))))) ?_
          refine up_loop 30 (P := fun (i : Nat) => ∀ (H : Heap) (lo : List Loc), MS E [(b, 5)] s H lo → PR E b (modelW E b (updC mo 1 (clA (updZ (mo 1) 0 (mo 1 0 + 1)) (co 0 0) i))) H → V p l e (rmL 2 0 0) s m args below meth cd Q 5 H lo 0 0 53 [(4, .int (zI (i : Int))), (3, .int (zI (co 0 0))), (0, .ref b), (1, .int (zI d)), (2, .int (zI o))] []) (fun i hi_i ih_i H8 lo8 hM h_mo => ?_) _ _ hM (PR.to h_mo (by rw [clA_0]))
          refine v_iload X dX10_charges_53 55 rfl 0 rfl ?_
          refine v_bipush X dX10_charges_55 57 rfl rfl ?_
          refine v_icmp_ge X (by omega) (by omega) dX10_charges_57 60 74 rfl (by decide) (fun c_9 => ?_) (fun c_9 => ?_)
          · skip
            refine v_aload_n X dX10_charges_74 75 rfl 2 rfl ?_
            refine v_iload_n X dX10_charges_75 76 rfl 1 rfl ?_
            refine v_iconst X dX10_charges_76 77 rfl ?_
            refine v_iload_n X dX10_charges_77 78 rfl 3 rfl ?_
            refine v_muV X hM (h_mo.1) (c_X10_set l E b (updC mo 1 (clA (updZ (mo 1) 0 (mo 1 0 + 1)) (co 0 0) i)) (co 0 0) 0 d (by omega) (by omega) (by omega) (by omega)) kvX10_set kiX10_set kl_X10_75 (q0 := 0) rfl rfl (As := [.int (zI (co 0 0)), .int (zI 0), .int (zI d)]) rfl rfl rfl dX10_charges_78 81 rfl (k' := 0) (n' := 0) rfl rfl (fsI (fun q q1 q2 => (Or.inl (fsH (by omega) (by omega))))) h_mo (fun rv H10 lo10 hM hF hpo => ?_)
            obtain ⟨rfl, hw_0⟩ := hpo
            have h_mo : PR E b (modelW E b (updC mo 1 (updZ ((clA (updZ (mo 1) 0 (mo 1 0 + 1)) (co 0 0) i)) (12 + 30 * (co 0 0) + 0) d))) H10 := hw_0
            show V p l e (rmL 2 0 0) s m args below meth cd Q 5 H10 lo10 0 0 81 [(4, .int (zI (i : Int))), (3, .int (zI (co 0 0))), (0, .ref b), (1, .int (zI d)), (2, .int (zI o))] []
            refine v_aload_n X dX10_charges_81 82 rfl 2 rfl ?_
            refine v_iload_n X dX10_charges_82 83 rfl 1 rfl ?_
            refine v_iconst X dX10_charges_83 84 rfl ?_
            refine v_iload_n X dX10_charges_84 85 rfl 4 rfl ?_
            refine v_muV X hM (h_mo.1) (c_X10_set l E b (updC mo 1 (updZ ((clA (updZ (mo 1) 0 (mo 1 0 + 1)) (co 0 0) i)) (12 + 30 * (co 0 0) + 0) d)) (co 0 0) 1 o (by omega) (by omega) (by omega) (by omega)) kvX10_set kiX10_set kl_X10_75 (q0 := 0) rfl rfl (As := [.int (zI (co 0 0)), .int (zI 1), .int (zI o)]) rfl rfl rfl dX10_charges_85 88 rfl (k' := 0) (n' := 0) rfl rfl (fsI (fun q q1 q2 => (Or.inl (fsH (by omega) (by omega))))) h_mo (fun rv H11 lo11 hM hF hpo => ?_)
            obtain ⟨rfl, hw_0⟩ := hpo
            have h_mo : PR E b (modelW E b (updC mo 1 (updZ ((updZ ((clA (updZ (mo 1) 0 (mo 1 0 + 1)) (co 0 0) i)) (12 + 30 * (co 0 0) + 0) d)) (12 + 30 * (co 0 0) + 1) o))) H11 := hw_0
            show V p l e (rmL 2 0 0) s m args below meth cd Q 5 H11 lo11 0 0 88 [(4, .int (zI (i : Int))), (3, .int (zI (co 0 0))), (0, .ref b), (1, .int (zI d)), (2, .int (zI o))] []
            refine v_aload_n X dX10_charges_88 89 rfl 2 rfl ?_
            refine v_iload_n X dX10_charges_89 90 rfl 1 rfl ?_
            refine v_putf X hM h_mo ftX10 0 rfl rfl 4 (by decide) kf_X10_40 (fun _ h => h) rfl rfl rfl (Nat.le_of_ble_eq_true rfl) (Or.inl (fsH (by omega) (by omega))) dX10_charges_90 93 rfl (ws' := modelW E b (updC (updC mo 0 (updZ (mo 0) 4 (co 0 0))) 1 (updZ ((updZ ((clA (updZ (mo 1) 0 (mo 1 0 + 1)) (co 0 0) i)) (12 + 30 * (co 0 0) + 0) d)) (12 + 30 * (co 0 0) + 1) o))) rfl (fun H12 lo12 hzz hM hF h_mo => ?_)
            clear hzz
            refine v_iconst X dX10_charges_93 94 rfl ?_
            subst hQ; exact m_iret X hr hlk hM dX10_charges_94 rfl ⟨(updZ ((updZ ((clA (updZ (mo 1) 0 (mo 1 0 + 1)) (co 0 0) i)) (12 + 30 * (co 0 0) + 0) d)) (12 + 30 * (co 0 0) + 1) o), rfl, (by rw [show i = 30 by omega]; show RelC (openC co d o) _; exact rel_openC hO hR (by omega) (by omega) (by omega) (by omega)), (by intro i hi; simp only [updZ, clA, if_true, if_false]; omega), (PR.to h_mo (by rw [show opV co 0 d o 0 0 = co 0 0 by rfl]))⟩
          · skip
            refine v_aload_n X dX10_charges_60 61 rfl 2 rfl ?_
            refine v_iload_n X dX10_charges_61 62 rfl 1 rfl ?_
            refine v_iload X dX10_charges_62 64 rfl 0 rfl ?_
            refine v_iconst X dX10_charges_64 65 rfl ?_
            refine v_muV X hM (h_mo.1) (c_X10_set l E b (updC mo 1 (clA (updZ (mo 1) 0 (mo 1 0 + 1)) (co 0 0) i)) (co 0 0) (i : Int) 0 (by omega) (by omega) (by omega) (by omega)) kvX10_set kiX10_set kl_X10_75 (q0 := 0) rfl rfl (As := [.int (zI (co 0 0)), .int (zI (i : Int)), .int (zI 0)]) rfl rfl rfl dX10_charges_65 68 rfl (k' := 0) (n' := 0) rfl rfl (fsI (fun q q1 q2 => (Or.inl (fsH (by omega) (by omega))))) h_mo (fun rv H13 lo13 hM hF hpo => ?_)
            obtain ⟨rfl, hw_0⟩ := hpo
            have h_mo : PR E b (modelW E b (updC mo 1 (updZ ((clA (updZ (mo 1) 0 (mo 1 0 + 1)) (co 0 0) i)) (12 + 30 * (co 0 0) + (i : Int)) 0))) H13 := hw_0
            show V p l e (rmL 2 0 0) s m args below meth cd Q 5 H13 lo13 0 0 68 [(4, .int (zI (i : Int))), (3, .int (zI (co 0 0))), (0, .ref b), (1, .int (zI d)), (2, .int (zI o))] []
            refine v_iinc X dX10_charges_68 71 rfl 0 rfl (by decide) (L' := [(4, .int (zI ((i : Int) + 1))), (3, .int (zI (co 0 0))), (0, .ref b), (1, .int (zI d)), (2, .int (zI o))]) rfl ?_
            refine v_goto X dX10_charges_71 53 (by decide) ?_
            exact V_L (L' := [(4, .int (zI ((i + 1 : Nat) : Int))), (3, .int (zI (co 0 0))), (0, .ref b), (1, .int (zI d)), (2, .int (zI o))]) (LC (vz (by omega)) (LC rfl (LC rfl (LC rfl (LC rfl rfl))))) (ih_i (by omega) _ _ hM (PR.to h_mo (by rw [clA_s])))
        · skip
          exfalso; omega
    · skip
      exfalso; omega
set_option maxHeartbeats 4000000 in
set_option maxRecDepth 20000 in
theorem c_X10_registers_ok (l : Launch) (E : Nat → Nat → Nat) (b : Nat) (mo : Nat → Int → Int) (co : Nat → Int → Int) (x : Int) (hO : OkC co) (hR : RelC co (mo 1)) (hI : TsI co) (gx : Rg x) (hf : flC co 1 x 0 0 = 0) : Mu l yX10_registers cX10_registers 2 (some .int) 1 0 0 E [(b, 5)] [.ref b, .int (zI x)] (fun H => PR E b (modelW E b mo) H) (fun rv H => ∃ g1 : Int → Int, rv = some (.int (zI 0)) ∧ RelC (opC co 1 x 0 0 0) g1 ∧ (∀ i : Int, 492 ≤ i → g1 i = mo 1 i) ∧ PR E b (modelW E b (updC (updC mo 0 (updZ (mo 0) 4 (opV co 1 x 0 0 0))) 1 g1)) H) := by
  refine Mu.start (own := RX10) rfl (by decide +kernel) (Nat.le_of_ble_eq_true rfl) ?_
  intro p e s m below meth cd args Q hQ X hr hlk hnm hM hPr
  have h_mo := hPr
  have hb0 := hO.b0
  have hbw := hO.bw
  have hr0 := hR.s0
  have hr1 := hR.s1
  have hq := flC_1 hf
  refine v_iload_n X dX10_registers_0 1 rfl 1 rfl ?_
  refine v_iconst X dX10_registers_1 2 rfl ?_
  refine v_bipush X dX10_registers_2 4 rfl rfl ?_
  refine v_rdS X hM.C (ws0 E s.heap) (c_X10_in l E x 0 9 gx (by omega) (by omega)) kvX10_in ksX10_in kl_X10_43 (As := [.int (zI x), .int (zI 0), .int (zI 9)]) rfl rfl rfl dX10_registers_4 7 rfl ?_
  show V p l e (rmL 1 0 0) s m args below meth cd Q 2 s.heap [] 0 0 7 [(0, .ref b), (1, .int (zI x))] [.int (zI (bz (0 ≤ x ∧ x ≤ 9)))]
  refine v_bif_ne X dX10_registers_7 10 12 rfl (by decide) (fun c_1 => ?_) (fun c_1 => ?_)
  · skip
    refine v_aload_n X dX10_registers_12 13 rfl 0 rfl ?_
    refine v_getf X hM.C h_mo.1 inX10 0 rfl rfl 1 (by decide) kf_X10_9 (fun _ h => h) rfl dX10_registers_13 16 rfl ?_
    refine v_iconst X dX10_registers_16 17 rfl ?_
    refine v_iald X hM.C h_mo.1 1 rfl (by omega) (by omega) (by omega) dX10_registers_17 18 rfl ?_
    show V p l e (rmL 1 0 0) s m args below meth cd Q 2 s.heap [] 0 0 18 [(0, .ref b), (1, .int (zI x))] [.int (zI (mo 1 1))]
    refine v_bipush X dX10_registers_18 20 rfl rfl ?_
    have hb_3 := hR.s1
    refine v_icmp_ne X (by omega) (by omega) dX10_registers_20 23 25 rfl (by decide) (fun c_2 => ?_) (fun c_2 => ?_)
    · skip
      refine v_aload_n X dX10_registers_25 26 rfl 0 rfl ?_
      refine v_aload_n X dX10_registers_26 27 rfl 0 rfl ?_
      refine v_getf X hM.C h_mo.1 inX10 0 rfl rfl 1 (by decide) kf_X10_9 (fun _ h => h) rfl dX10_registers_27 30 rfl ?_
      refine v_iconst X dX10_registers_30 31 rfl ?_
      refine v_iald X hM.C h_mo.1 1 rfl (by omega) (by omega) (by omega) dX10_registers_31 32 rfl ?_
      show V p l e (rmL 1 0 0) s m args below meth cd Q 2 s.heap [] 0 0 32 [(0, .ref b), (1, .int (zI x))] [.int (zI (mo 1 1)), .ref b]
      refine V_S (st' := [.int (zI (co 0 1)), .ref b]) (by rw [hR.s1]) ?_
      refine v_putf X hM h_mo ftX10 0 rfl rfl 4 (by decide) kf_X10_40 (fun _ h => h) rfl rfl rfl (Nat.le_of_ble_eq_true rfl) (Or.inl (fsH (by omega) (by omega))) dX10_registers_32 35 rfl (ws' := modelW E b (updC mo 0 (updZ (mo 0) 4 (co 0 1)))) rfl (fun H4 lo4 hzz hM hF h_mo => ?_)
      clear hzz
      refine v_aload_n X dX10_registers_35 36 rfl 0 rfl ?_
      refine v_getf X hM.C h_mo.1 inX10 0 rfl rfl 1 (by decide) kf_X10_9 (fun _ h => h) rfl dX10_registers_36 39 rfl ?_
      refine v_iconst X dX10_registers_39 40 rfl ?_
      refine v_dup2 X dX10_registers_40 41 rfl rfl rfl ?_
      refine v_iald X hM.C h_mo.1 1 rfl (by omega) (by omega) (by omega) dX10_registers_41 42 rfl ?_
      show V p l e (rmL 1 0 0) s m args below meth cd Q 2 H4 lo4 0 0 42 [(0, .ref b), (1, .int (zI x))] [.int (zI (mo 1 1)), .int (zI 1), .ref (b + 1)]
      refine v_iconst X dX10_registers_42 43 rfl ?_
      refine v_iadd X dX10_registers_43 44 rfl ?_
      refine v_iast X hM h_mo 1 rfl (by omega) (by omega) (by omega) (Or.inl (fsH (by omega) (by omega))) dX10_registers_44 45 rfl (ws' := modelW E b (updC (updC mo 0 (updZ (mo 0) 4 (co 0 1))) 1 (updZ (mo 1) 1 (mo 1 1 + 1)))) rfl (fun H5 lo5 hzz hM hF h_mo => ?_)
      clear hzz
      refine v_aload_n X dX10_registers_45 46 rfl 0 rfl ?_
      refine v_getf X hM.C h_mo.1 inX10 0 rfl rfl 1 (by decide) kf_X10_9 (fun _ h => h) rfl dX10_registers_46 49 rfl ?_
      refine v_iconst X dX10_registers_49 50 rfl ?_
      refine v_aload_n X dX10_registers_50 51 rfl 0 rfl ?_
      refine v_getf X hM.C h_mo.1 inX10 0 rfl rfl 4 (by decide) kf_X10_40 (fun _ h => h) rfl dX10_registers_51 54 rfl ?_
      show V p l e (rmL 1 0 0) s m args below meth cd Q 2 H5 lo5 0 0 54 [(0, .ref b), (1, .int (zI x))] [.int (zI (co 0 1)), .int (zI 4), .ref (b + 1)]
      refine v_iadd X dX10_registers_54 55 rfl ?_
      refine v_iload_n X dX10_registers_55 56 rfl 1 rfl ?_
      have hb_6 := hO.bw
      refine v_iast X hM h_mo 1 rfl (by omega) (by omega) (by omega) (Or.inl (fsH (by omega) (by omega))) dX10_registers_56 57 rfl (ws' := modelW E b (updC (updC mo 0 (updZ (mo 0) 4 (co 0 1))) 1 (updZ (updZ (mo 1) 1 (mo 1 1 + 1)) (4 + co 0 1) x))) rfl (fun H7 lo7 hzz hM hF h_mo => ?_)
      clear hzz
      refine v_iconst X dX10_registers_57 58 rfl ?_
      subst hQ; exact m_iret X hr hlk hM dX10_registers_58 rfl ⟨(updZ (updZ (mo 1) 1 (mo 1 1 + 1)) (4 + co 0 1) x), rfl, (by show RelC (registerC co x) _; exact rel_registerC hO hR (by omega)), (by intro i hi; simp only [updZ, clA, if_true, if_false]; omega), (PR.to h_mo (by rw [show opV co 1 x 0 0 0 = co 0 1 by rfl]))⟩
    · skip
      exfalso; omega
  · skip
    exfalso; omega
set_option maxHeartbeats 4000000 in
set_option maxRecDepth 20000 in
theorem c_X10_testifies_ok_1 (l : Launch) (E : Nat → Nat → Nat) (b : Nat) (mo : Nat → Int → Int) (co : Nat → Int → Int) (k : Int) (w : Int) (z : Int) (hO : OkC co) (hR : RelC co (mo 1)) (hI : TsI co) (gk : Rg k) (gw : Rg w) (gz : Rg z) (hf : flC co 2 k w z = 0) : Mu l yX10_testifies cX10_testifies 6 (some .int) 2 0 0 E [(b, 5)] [.ref b, .int (zI k), .int (zI w), .int (zI 1), .int (zI z)] (fun H => PR E b (modelW E b mo) H) (fun rv H => ∃ g1 : Int → Int, rv = some (.int (zI 0)) ∧ RelC (opC co 2 k w 1 z) g1 ∧ (∀ i : Int, 492 ≤ i → g1 i = mo 1 i) ∧ PR E b (modelW E b (updC (updC mo 0 (updZ (mo 0) 4 (opV co 2 k w 1 z))) 1 g1)) H) := by
  refine Mu.start (own := RX10) rfl (by decide +kernel) (Nat.le_of_ble_eq_true rfl) ?_
  intro p e s m below meth cd args Q hQ X hr hlk hnm hM hPr
  have h_mo := hPr
  have hb0 := hO.b0
  have hbw := hO.bw
  have hr0 := hR.s0
  have hr1 := hR.s1
  have hq := flC_2 hf
  have hsp := swC_iff (co := co) (k := k) (w := w) hO hI (by omega) (by omega) (by omega) (by omega)
  have hb6 := hO.b6 k
  refine v_aload_n X dX10_testifies_0 1 rfl 0 rfl ?_
  refine v_iload_n X dX10_testifies_1 2 rfl 1 rfl ?_
  refine v_rdV X hM.C h_mo.1 (c_X10_isCase l E b mo co k hO hR gk) kvX10_isCase kiX10_isCase kl_X10_92 rfl rfl (As := [.int (zI k)]) rfl rfl rfl dX10_testifies_2 5 rfl ?_
  show V p l e (rmL 2 0 0) s m args below meth cd Q 6 s.heap [] 0 0 5 [(0, .ref b), (1, .int (zI k)), (2, .int (zI w)), (3, .int (zI 1)), (4, .int (zI z))] [.int (zI (bz (0 ≤ k ∧ k < co 0 0)))]
  refine v_bif_eq X dX10_testifies_5 8 16 rfl (by decide) (fun c_1 => ?_) (fun c_1 => ?_)
  · skip
    exfalso; omega
  · skip
    refine v_aload_n X dX10_testifies_8 9 rfl 0 rfl ?_
    refine v_iload_n X dX10_testifies_9 10 rfl 2 rfl ?_
    refine v_rdV X hM.C h_mo.1 (c_X10_isWitness l E b mo co w hO hR gw) kvX10_isWitness kiX10_isWitness kl_X10_95 rfl rfl (As := [.int (zI w)]) rfl rfl rfl dX10_testifies_10 13 rfl ?_
    show V p l e (rmL 2 0 0) s m args below meth cd Q 6 s.heap [] 0 0 13 [(0, .ref b), (1, .int (zI k)), (2, .int (zI w)), (3, .int (zI 1)), (4, .int (zI z))] [.int (zI (bz (0 ≤ w ∧ w < co 0 1)))]
    refine v_bif_ne X dX10_testifies_13 16 18 rfl (by decide) (fun c_2 => ?_) (fun c_2 => ?_)
    · skip
      refine v_iload X dX10_testifies_18 20 rfl 4 rfl ?_
      refine v_iconst X dX10_testifies_20 21 rfl ?_
      refine v_iconst X dX10_testifies_21 22 rfl ?_
      refine v_rdS X hM.C (ws0 E s.heap) (c_X10_in l E z 1 5 gz (by omega) (by omega)) kvX10_in ksX10_in kl_X10_43 (As := [.int (zI z), .int (zI 1), .int (zI 5)]) rfl rfl rfl dX10_testifies_22 25 rfl ?_
      show V p l e (rmL 2 0 0) s m args below meth cd Q 6 s.heap [] 0 0 25 [(0, .ref b), (1, .int (zI k)), (2, .int (zI w)), (3, .int (zI 1)), (4, .int (zI z))] [.int (zI (bz (1 ≤ z ∧ z ≤ 5)))]
      refine v_bif_ne X dX10_testifies_25 28 30 rfl (by decide) (fun c_3 => ?_) (fun c_3 => ?_)
      · skip
        refine v_aload_n X dX10_testifies_30 31 rfl 0 rfl ?_
        refine v_iload_n X dX10_testifies_31 32 rfl 1 rfl ?_
        refine v_iconst X dX10_testifies_32 33 rfl ?_
        have hb_4 := hO.b0
        refine v_rdV X hM.C h_mo.1 (c_X10_c_5 l E b mo co k hO hR (by omega) (by omega)) kvX10_c kiX10_c kl_X10_47 rfl rfl (As := [.int (zI k), .int (zI 5)]) rfl rfl rfl dX10_testifies_33 36 rfl ?_
        show V p l e (rmL 2 0 0) s m args below meth cd Q 6 s.heap [] 0 0 36 [(0, .ref b), (1, .int (zI k)), (2, .int (zI w)), (3, .int (zI 1)), (4, .int (zI z))] [.int (zI (co 6 k))]
        have hb_5 := hO.b6 k
        refine v_istore X dX10_testifies_36 38 rfl (by decide) (L' := [(5, .int (zI (co 6 k))), (0, .ref b), (1, .int (zI k)), (2, .int (zI w)), (3, .int (zI 1)), (4, .int (zI z))]) rfl ?_
        refine v_aload_n X dX10_testifies_38 39 rfl 1 rfl ?_
        refine v_iload_n X dX10_testifies_39 40 rfl 2 rfl ?_
        refine v_iconst X dX10_testifies_40 41 rfl ?_
        refine v_rdV X hM.C h_mo.1 (c_X10_c_2 l E b mo co k hO hR (by omega) (by omega)) kvX10_c kiX10_c kl_X10_47 rfl rfl (As := [.int (zI k), .int (zI 2)]) rfl rfl rfl dX10_testifies_41 44 rfl ?_
        show V p l e (rmL 2 0 0) s m args below meth cd Q 6 s.heap [] 0 0 44 [(5, .int (zI (co 6 k))), (0, .ref b), (1, .int (zI k)), (2, .int (zI w)), (3, .int (zI 1)), (4, .int (zI z))] [.int (zI (co 3 k))]
        have hb_6 := hO.b3 k
        refine v_if_ne X (by omega) dX10_testifies_44 47 63 rfl (by decide) (fun c_7 => ?_) (fun c_7 => ?_)
        · skip
          exfalso; omega
        · skip
          refine v_aload_n X dX10_testifies_47 48 rfl 1 rfl ?_
          refine v_iload_n X dX10_testifies_48 49 rfl 2 rfl ?_
          refine v_iload_n X dX10_testifies_49 50 rfl 3 rfl ?_
          refine v_rdV X hM.C h_mo.1 (c_X10_spokenBy l E b mo co k w hO hR (by omega) (by omega) gw) kvX10_spokenBy kiX10_spokenBy kl_X10_98 rfl rfl (As := [.int (zI k), .int (zI w)]) rfl rfl rfl dX10_testifies_50 53 rfl ?_
          show V p l e (rmL 2 0 0) s m args below meth cd Q 6 s.heap [] 0 0 53 [(5, .int (zI (co 6 k))), (0, .ref b), (1, .int (zI k)), (2, .int (zI w)), (3, .int (zI 1)), (4, .int (zI z))] [.int (zI (swC co k w))]
          have hf_8 := swC_b hO k w
          refine v_if_ge X (by omega) dX10_testifies_53 56 63 rfl (by decide) (fun c_9 => ?_) (fun c_9 => ?_)
          · skip
            exfalso; omega
          · skip
            refine v_iload X dX10_testifies_56 58 rfl 0 rfl ?_
            refine v_bipush X dX10_testifies_58 60 rfl rfl ?_
            refine v_icmp_ne X (by omega) (by omega) dX10_testifies_60 63 65 rfl (by decide) (fun c_10 => ?_) (fun c_10 => ?_)
            · skip
              refine v_aload_n X dX10_testifies_65 66 rfl 1 rfl ?_
              refine v_iload_n X dX10_testifies_66 67 rfl 2 rfl ?_
              refine v_bipush X dX10_testifies_67 69 rfl rfl ?_
              refine v_iconst X dX10_testifies_69 70 rfl ?_
              refine v_iload X dX10_testifies_70 72 rfl 0 rfl ?_
              refine v_imul X dX10_testifies_72 73 rfl ?_
              refine v_iadd X dX10_testifies_73 74 rfl ?_
              refine v_iconst X dX10_testifies_74 75 rfl ?_
              refine v_iadd X dX10_testifies_75 76 rfl ?_
              refine v_iload_n X dX10_testifies_76 77 rfl 3 rfl ?_
              refine v_muV X hM (h_mo.1) (c_X10_set l E b mo k (6 + 4 * co 6 k + 0) w (by omega) (by omega) (by omega) (by omega)) kvX10_set kiX10_set kl_X10_75 (q0 := 0) rfl rfl (As := [.int (zI k), .int (zI (6 + 4 * co 6 k + 0)), .int (zI w)]) rfl rfl rfl dX10_testifies_77 80 rfl (k' := 0) (n' := 0) rfl rfl (fsI (fun q q1 q2 => (Or.inl (fsH (by omega) (by omega))))) h_mo (fun rv H11 lo11 hM hF hpo => ?_)
              obtain ⟨rfl, hw_0⟩ := hpo
              have h_mo : PR E b (modelW E b (updC mo 1 (updZ ((mo 1)) (12 + 30 * k + (6 + 4 * co 6 k + 0)) w))) H11 := hw_0
              show V p l e (rmL 2 0 0) s m args below meth cd Q 6 H11 lo11 0 0 80 [(5, .int (zI (co 6 k))), (0, .ref b), (1, .int (zI k)), (2, .int (zI w)), (3, .int (zI 1)), (4, .int (zI z))] []
              refine v_aload_n X dX10_testifies_80 81 rfl 1 rfl ?_
              refine v_iload_n X dX10_testifies_81 82 rfl 2 rfl ?_
              refine v_bipush X dX10_testifies_82 84 rfl rfl ?_
              refine v_iconst X dX10_testifies_84 85 rfl ?_
              refine v_iload X dX10_testifies_85 87 rfl 0 rfl ?_
              refine v_imul X dX10_testifies_87 88 rfl ?_
              refine v_iadd X dX10_testifies_88 89 rfl ?_
              refine v_iconst X dX10_testifies_89 90 rfl ?_
              refine v_iadd X dX10_testifies_90 91 rfl ?_
              refine v_iload_n X dX10_testifies_91 92 rfl 4 rfl ?_
              refine v_muV X hM (h_mo.1) (c_X10_set l E b (updC mo 1 (updZ ((mo 1)) (12 + 30 * k + (6 + 4 * co 6 k + 0)) w)) k (6 + 4 * co 6 k + 1) 1 (by omega) (by omega) (by omega) (by omega)) kvX10_set kiX10_set kl_X10_75 (q0 := 0) rfl rfl (As := [.int (zI k), .int (zI (6 + 4 * co 6 k + 1)), .int (zI 1)]) rfl rfl rfl dX10_testifies_92 95 rfl (k' := 0) (n' := 0) rfl rfl (fsI (fun q q1 q2 => (Or.inl (fsH (by omega) (by omega))))) h_mo (fun rv H12 lo12 hM hF hpo => ?_)
              obtain ⟨rfl, hw_0⟩ := hpo
              have h_mo : PR E b (modelW E b (updC mo 1 (updZ ((updZ ((mo 1)) (12 + 30 * k + (6 + 4 * co 6 k + 0)) w)) (12 + 30 * k + (6 + 4 * co 6 k + 1)) 1))) H12 := hw_0
              show V p l e (rmL 2 0 0) s m args below meth cd Q 6 H12 lo12 0 0 95 [(5, .int (zI (co 6 k))), (0, .ref b), (1, .int (zI k)), (2, .int (zI w)), (3, .int (zI 1)), (4, .int (zI z))] []
              refine v_aload_n X dX10_testifies_95 96 rfl 1 rfl ?_
              refine v_iload_n X dX10_testifies_96 97 rfl 2 rfl ?_
              refine v_bipush X dX10_testifies_97 99 rfl rfl ?_
              refine v_iconst X dX10_testifies_99 100 rfl ?_
              refine v_iload X dX10_testifies_100 102 rfl 0 rfl ?_
              refine v_imul X dX10_testifies_102 103 rfl ?_
              refine v_iadd X dX10_testifies_103 104 rfl ?_
              refine v_iconst X dX10_testifies_104 105 rfl ?_
              refine v_iadd X dX10_testifies_105 106 rfl ?_
              refine v_iload X dX10_testifies_106 108 rfl 5 rfl ?_
              refine v_muV X hM (h_mo.1) (c_X10_set l E b (updC mo 1 (updZ ((updZ ((mo 1)) (12 + 30 * k + (6 + 4 * co 6 k + 0)) w)) (12 + 30 * k + (6 + 4 * co 6 k + 1)) 1)) k (6 + 4 * co 6 k + 2) z (by omega) (by omega) (by omega) (by omega)) kvX10_set kiX10_set kl_X10_75 (q0 := 0) rfl rfl (As := [.int (zI k), .int (zI (6 + 4 * co 6 k + 2)), .int (zI z)]) rfl rfl rfl dX10_testifies_108 111 rfl (k' := 0) (n' := 0) rfl rfl (fsI (fun q q1 q2 => (Or.inl (fsH (by omega) (by omega))))) h_mo (fun rv H13 lo13 hM hF hpo => ?_)
              obtain ⟨rfl, hw_0⟩ := hpo
              have h_mo : PR E b (modelW E b (updC mo 1 (updZ ((updZ ((updZ ((mo 1)) (12 + 30 * k + (6 + 4 * co 6 k + 0)) w)) (12 + 30 * k + (6 + 4 * co 6 k + 1)) 1)) (12 + 30 * k + (6 + 4 * co 6 k + 2)) z))) H13 := hw_0
              show V p l e (rmL 2 0 0) s m args below meth cd Q 6 H13 lo13 0 0 111 [(5, .int (zI (co 6 k))), (0, .ref b), (1, .int (zI k)), (2, .int (zI w)), (3, .int (zI 1)), (4, .int (zI z))] []
              refine v_aload_n X dX10_testifies_111 112 rfl 1 rfl ?_
              refine v_iload_n X dX10_testifies_112 113 rfl 2 rfl ?_
              refine v_bipush X dX10_testifies_113 115 rfl rfl ?_
              refine v_iconst X dX10_testifies_115 116 rfl ?_
              refine v_iload X dX10_testifies_116 118 rfl 0 rfl ?_
              refine v_imul X dX10_testifies_118 119 rfl ?_
              refine v_iadd X dX10_testifies_119 120 rfl ?_
              refine v_iconst X dX10_testifies_120 121 rfl ?_
              refine v_iadd X dX10_testifies_121 122 rfl ?_
              refine v_iconst X dX10_testifies_122 123 rfl ?_
              refine v_muV X hM (h_mo.1) (c_X10_set l E b (updC mo 1 (updZ ((updZ ((updZ ((mo 1)) (12 + 30 * k + (6 + 4 * co 6 k + 0)) w)) (12 + 30 * k + (6 + 4 * co 6 k + 1)) 1)) (12 + 30 * k + (6 + 4 * co 6 k + 2)) z)) k (6 + 4 * co 6 k + 3) 0 (by omega) (by omega) (by omega) (by omega)) kvX10_set kiX10_set kl_X10_75 (q0 := 0) rfl rfl (As := [.int (zI k), .int (zI (6 + 4 * co 6 k + 3)), .int (zI 0)]) rfl rfl rfl dX10_testifies_123 126 rfl (k' := 0) (n' := 0) rfl rfl (fsI (fun q q1 q2 => (Or.inl (fsH (by omega) (by omega))))) h_mo (fun rv H14 lo14 hM hF hpo => ?_)
              obtain ⟨rfl, hw_0⟩ := hpo
              have h_mo : PR E b (modelW E b (updC mo 1 (updZ ((updZ ((updZ ((updZ ((mo 1)) (12 + 30 * k + (6 + 4 * co 6 k + 0)) w)) (12 + 30 * k + (6 + 4 * co 6 k + 1)) 1)) (12 + 30 * k + (6 + 4 * co 6 k + 2)) z)) (12 + 30 * k + (6 + 4 * co 6 k + 3)) 0))) H14 := hw_0
              show V p l e (rmL 2 0 0) s m args below meth cd Q 6 H14 lo14 0 0 126 [(5, .int (zI (co 6 k))), (0, .ref b), (1, .int (zI k)), (2, .int (zI w)), (3, .int (zI 1)), (4, .int (zI z))] []
              refine v_aload_n X dX10_testifies_126 127 rfl 1 rfl ?_
              refine v_iload_n X dX10_testifies_127 128 rfl 2 rfl ?_
              refine v_iconst X dX10_testifies_128 129 rfl ?_
              refine v_iload X dX10_testifies_129 131 rfl 0 rfl ?_
              refine v_iconst X dX10_testifies_131 132 rfl ?_
              refine v_iadd X dX10_testifies_132 133 rfl ?_
              refine v_muV X hM (h_mo.1) (c_X10_set l E b (updC mo 1 (updZ ((updZ ((updZ ((updZ ((mo 1)) (12 + 30 * k + (6 + 4 * co 6 k + 0)) w)) (12 + 30 * k + (6 + 4 * co 6 k + 1)) 1)) (12 + 30 * k + (6 + 4 * co 6 k + 2)) z)) (12 + 30 * k + (6 + 4 * co 6 k + 3)) 0)) k 5 (co 6 k + 1) (by omega) (by omega) (by omega) (by omega)) kvX10_set kiX10_set kl_X10_75 (q0 := 0) rfl rfl (As := [.int (zI k), .int (zI 5), .int (zI (co 6 k + 1))]) rfl rfl rfl dX10_testifies_133 136 rfl (k' := 0) (n' := 0) rfl rfl (fsI (fun q q1 q2 => (Or.inl (fsH (by omega) (by omega))))) h_mo (fun rv H15 lo15 hM hF hpo => ?_)
              obtain ⟨rfl, hw_0⟩ := hpo
              have h_mo : PR E b (modelW E b (updC mo 1 (updZ ((updZ ((updZ ((updZ ((updZ ((mo 1)) (12 + 30 * k + (6 + 4 * co 6 k + 0)) w)) (12 + 30 * k + (6 + 4 * co 6 k + 1)) 1)) (12 + 30 * k + (6 + 4 * co 6 k + 2)) z)) (12 + 30 * k + (6 + 4 * co 6 k + 3)) 0)) (12 + 30 * k + 5) (co 6 k + 1)))) H15 := hw_0
              show V p l e (rmL 2 0 0) s m args below meth cd Q 6 H15 lo15 0 0 136 [(5, .int (zI (co 6 k))), (0, .ref b), (1, .int (zI k)), (2, .int (zI w)), (3, .int (zI 1)), (4, .int (zI z))] []
              refine v_aload_n X dX10_testifies_136 137 rfl 1 rfl ?_
              refine v_iload X dX10_testifies_137 139 rfl 0 rfl ?_
              refine v_iconst X dX10_testifies_139 140 rfl ?_
              refine v_iadd X dX10_testifies_140 141 rfl ?_
              refine v_putf X hM h_mo ftX10 0 rfl rfl 4 (by decide) kf_X10_40 (fun _ h => h) rfl rfl rfl (Nat.le_of_ble_eq_true rfl) (Or.inl (fsH (by omega) (by omega))) dX10_testifies_141 144 rfl (ws' := modelW E b (updC (updC mo 0 (updZ (mo 0) 4 (co 6 k + 1))) 1 (updZ ((updZ ((updZ ((updZ ((updZ ((mo 1)) (12 + 30 * k + (6 + 4 * co 6 k + 0)) w)) (12 + 30 * k + (6 + 4 * co 6 k + 1)) 1)) (12 + 30 * k + (6 + 4 * co 6 k + 2)) z)) (12 + 30 * k + (6 + 4 * co 6 k + 3)) 0)) (12 + 30 * k + 5) (co 6 k + 1)))) rfl (fun H16 lo16 hzz hM hF h_mo => ?_)
              clear hzz
              refine v_iconst X dX10_testifies_144 145 rfl ?_
              subst hQ; exact m_iret X hr hlk hM dX10_testifies_145 rfl ⟨(updZ ((updZ ((updZ ((updZ ((updZ ((mo 1)) (12 + 30 * k + (6 + 4 * co 6 k + 0)) w)) (12 + 30 * k + (6 + 4 * co 6 k + 1)) 1)) (12 + 30 * k + (6 + 4 * co 6 k + 2)) z)) (12 + 30 * k + (6 + 4 * co 6 k + 3)) 0)) (12 + 30 * k + 5) (co 6 k + 1)), rfl, (by show RelC (hearC1 co k w z) _; exact rel_hearC1 hO hR hI (by omega) (by omega) (by omega) (by omega) (by omega) (by omega)), (by intro i hi; simp only [updZ, clA, if_true, if_false]; omega), (PR.to h_mo (by rw [show opV co 2 k w 1 z = co 6 k + 1 by rfl]))⟩
            · skip
              exfalso; omega
      · skip
        exfalso; omega
    · skip
      exfalso; omega
set_option maxHeartbeats 4000000 in
set_option maxRecDepth 20000 in
theorem c_X10_testifies_ok_0 (l : Launch) (E : Nat → Nat → Nat) (b : Nat) (mo : Nat → Int → Int) (co : Nat → Int → Int) (k : Int) (w : Int) (z : Int) (hO : OkC co) (hR : RelC co (mo 1)) (hI : TsI co) (gk : Rg k) (gw : Rg w) (gz : Rg z) (hf : flC co 2 k w z = 0) : Mu l yX10_testifies cX10_testifies 6 (some .int) 2 0 0 E [(b, 5)] [.ref b, .int (zI k), .int (zI w), .int (zI 0), .int (zI z)] (fun H => PR E b (modelW E b mo) H) (fun rv H => ∃ g1 : Int → Int, rv = some (.int (zI 0)) ∧ RelC (opC co 2 k w 0 z) g1 ∧ (∀ i : Int, 492 ≤ i → g1 i = mo 1 i) ∧ PR E b (modelW E b (updC (updC mo 0 (updZ (mo 0) 4 (opV co 2 k w 0 z))) 1 g1)) H) := by
  refine Mu.start (own := RX10) rfl (by decide +kernel) (Nat.le_of_ble_eq_true rfl) ?_
  intro p e s m below meth cd args Q hQ X hr hlk hnm hM hPr
  have h_mo := hPr
  have hb0 := hO.b0
  have hbw := hO.bw
  have hr0 := hR.s0
  have hr1 := hR.s1
  have hq := flC_2 hf
  have hsp := swC_iff (co := co) (k := k) (w := w) hO hI (by omega) (by omega) (by omega) (by omega)
  have hb6 := hO.b6 k
  refine v_aload_n X dX10_testifies_0 1 rfl 0 rfl ?_
  refine v_iload_n X dX10_testifies_1 2 rfl 1 rfl ?_
  refine v_rdV X hM.C h_mo.1 (c_X10_isCase l E b mo co k hO hR gk) kvX10_isCase kiX10_isCase kl_X10_92 rfl rfl (As := [.int (zI k)]) rfl rfl rfl dX10_testifies_2 5 rfl ?_
  show V p l e (rmL 2 0 0) s m args below meth cd Q 6 s.heap [] 0 0 5 [(0, .ref b), (1, .int (zI k)), (2, .int (zI w)), (3, .int (zI 0)), (4, .int (zI z))] [.int (zI (bz (0 ≤ k ∧ k < co 0 0)))]
  refine v_bif_eq X dX10_testifies_5 8 16 rfl (by decide) (fun c_1 => ?_) (fun c_1 => ?_)
  · skip
    exfalso; omega
  · skip
    refine v_aload_n X dX10_testifies_8 9 rfl 0 rfl ?_
    refine v_iload_n X dX10_testifies_9 10 rfl 2 rfl ?_
    refine v_rdV X hM.C h_mo.1 (c_X10_isWitness l E b mo co w hO hR gw) kvX10_isWitness kiX10_isWitness kl_X10_95 rfl rfl (As := [.int (zI w)]) rfl rfl rfl dX10_testifies_10 13 rfl ?_
    show V p l e (rmL 2 0 0) s m args below meth cd Q 6 s.heap [] 0 0 13 [(0, .ref b), (1, .int (zI k)), (2, .int (zI w)), (3, .int (zI 0)), (4, .int (zI z))] [.int (zI (bz (0 ≤ w ∧ w < co 0 1)))]
    refine v_bif_ne X dX10_testifies_13 16 18 rfl (by decide) (fun c_2 => ?_) (fun c_2 => ?_)
    · skip
      refine v_iload X dX10_testifies_18 20 rfl 4 rfl ?_
      refine v_iconst X dX10_testifies_20 21 rfl ?_
      refine v_iconst X dX10_testifies_21 22 rfl ?_
      refine v_rdS X hM.C (ws0 E s.heap) (c_X10_in l E z 1 5 gz (by omega) (by omega)) kvX10_in ksX10_in kl_X10_43 (As := [.int (zI z), .int (zI 1), .int (zI 5)]) rfl rfl rfl dX10_testifies_22 25 rfl ?_
      show V p l e (rmL 2 0 0) s m args below meth cd Q 6 s.heap [] 0 0 25 [(0, .ref b), (1, .int (zI k)), (2, .int (zI w)), (3, .int (zI 0)), (4, .int (zI z))] [.int (zI (bz (1 ≤ z ∧ z ≤ 5)))]
      refine v_bif_ne X dX10_testifies_25 28 30 rfl (by decide) (fun c_3 => ?_) (fun c_3 => ?_)
      · skip
        refine v_aload_n X dX10_testifies_30 31 rfl 0 rfl ?_
        refine v_iload_n X dX10_testifies_31 32 rfl 1 rfl ?_
        refine v_iconst X dX10_testifies_32 33 rfl ?_
        have hb_4 := hO.b0
        refine v_rdV X hM.C h_mo.1 (c_X10_c_5 l E b mo co k hO hR (by omega) (by omega)) kvX10_c kiX10_c kl_X10_47 rfl rfl (As := [.int (zI k), .int (zI 5)]) rfl rfl rfl dX10_testifies_33 36 rfl ?_
        show V p l e (rmL 2 0 0) s m args below meth cd Q 6 s.heap [] 0 0 36 [(0, .ref b), (1, .int (zI k)), (2, .int (zI w)), (3, .int (zI 0)), (4, .int (zI z))] [.int (zI (co 6 k))]
        have hb_5 := hO.b6 k
        refine v_istore X dX10_testifies_36 38 rfl (by decide) (L' := [(5, .int (zI (co 6 k))), (0, .ref b), (1, .int (zI k)), (2, .int (zI w)), (3, .int (zI 0)), (4, .int (zI z))]) rfl ?_
        refine v_aload_n X dX10_testifies_38 39 rfl 1 rfl ?_
        refine v_iload_n X dX10_testifies_39 40 rfl 2 rfl ?_
        refine v_iconst X dX10_testifies_40 41 rfl ?_
        refine v_rdV X hM.C h_mo.1 (c_X10_c_2 l E b mo co k hO hR (by omega) (by omega)) kvX10_c kiX10_c kl_X10_47 rfl rfl (As := [.int (zI k), .int (zI 2)]) rfl rfl rfl dX10_testifies_41 44 rfl ?_
        show V p l e (rmL 2 0 0) s m args below meth cd Q 6 s.heap [] 0 0 44 [(5, .int (zI (co 6 k))), (0, .ref b), (1, .int (zI k)), (2, .int (zI w)), (3, .int (zI 0)), (4, .int (zI z))] [.int (zI (co 3 k))]
        have hb_6 := hO.b3 k
        refine v_if_ne X (by omega) dX10_testifies_44 47 63 rfl (by decide) (fun c_7 => ?_) (fun c_7 => ?_)
        · skip
          exfalso; omega
        · skip
          refine v_aload_n X dX10_testifies_47 48 rfl 1 rfl ?_
          refine v_iload_n X dX10_testifies_48 49 rfl 2 rfl ?_
          refine v_iload_n X dX10_testifies_49 50 rfl 3 rfl ?_
          refine v_rdV X hM.C h_mo.1 (c_X10_spokenBy l E b mo co k w hO hR (by omega) (by omega) gw) kvX10_spokenBy kiX10_spokenBy kl_X10_98 rfl rfl (As := [.int (zI k), .int (zI w)]) rfl rfl rfl dX10_testifies_50 53 rfl ?_
          show V p l e (rmL 2 0 0) s m args below meth cd Q 6 s.heap [] 0 0 53 [(5, .int (zI (co 6 k))), (0, .ref b), (1, .int (zI k)), (2, .int (zI w)), (3, .int (zI 0)), (4, .int (zI z))] [.int (zI (swC co k w))]
          have hf_8 := swC_b hO k w
          refine v_if_ge X (by omega) dX10_testifies_53 56 63 rfl (by decide) (fun c_9 => ?_) (fun c_9 => ?_)
          · skip
            exfalso; omega
          · skip
            refine v_iload X dX10_testifies_56 58 rfl 0 rfl ?_
            refine v_bipush X dX10_testifies_58 60 rfl rfl ?_
            refine v_icmp_ne X (by omega) (by omega) dX10_testifies_60 63 65 rfl (by decide) (fun c_10 => ?_) (fun c_10 => ?_)
            · skip
              refine v_aload_n X dX10_testifies_65 66 rfl 1 rfl ?_
              refine v_iload_n X dX10_testifies_66 67 rfl 2 rfl ?_
              refine v_bipush X dX10_testifies_67 69 rfl rfl ?_
              refine v_iconst X dX10_testifies_69 70 rfl ?_
              refine v_iload X dX10_testifies_70 72 rfl 0 rfl ?_
              refine v_imul X dX10_testifies_72 73 rfl ?_
              refine v_iadd X dX10_testifies_73 74 rfl ?_
              refine v_iconst X dX10_testifies_74 75 rfl ?_
              refine v_iadd X dX10_testifies_75 76 rfl ?_
              refine v_iload_n X dX10_testifies_76 77 rfl 3 rfl ?_
              refine v_muV X hM (h_mo.1) (c_X10_set l E b mo k (6 + 4 * co 6 k + 0) w (by omega) (by omega) (by omega) (by omega)) kvX10_set kiX10_set kl_X10_75 (q0 := 0) rfl rfl (As := [.int (zI k), .int (zI (6 + 4 * co 6 k + 0)), .int (zI w)]) rfl rfl rfl dX10_testifies_77 80 rfl (k' := 0) (n' := 0) rfl rfl (fsI (fun q q1 q2 => (Or.inl (fsH (by omega) (by omega))))) h_mo (fun rv H11 lo11 hM hF hpo => ?_)
              obtain ⟨rfl, hw_0⟩ := hpo
              have h_mo : PR E b (modelW E b (updC mo 1 (updZ ((mo 1)) (12 + 30 * k + (6 + 4 * co 6 k + 0)) w))) H11 := hw_0
              show V p l e (rmL 2 0 0) s m args below meth cd Q 6 H11 lo11 0 0 80 [(5, .int (zI (co 6 k))), (0, .ref b), (1, .int (zI k)), (2, .int (zI w)), (3, .int (zI 0)), (4, .int (zI z))] []
              refine v_aload_n X dX10_testifies_80 81 rfl 1 rfl ?_
              refine v_iload_n X dX10_testifies_81 82 rfl 2 rfl ?_
              refine v_bipush X dX10_testifies_82 84 rfl rfl ?_
              refine v_iconst X dX10_testifies_84 85 rfl ?_
              refine v_iload X dX10_testifies_85 87 rfl 0 rfl ?_
              refine v_imul X dX10_testifies_87 88 rfl ?_
              refine v_iadd X dX10_testifies_88 89 rfl ?_
              refine v_iconst X dX10_testifies_89 90 rfl ?_
              refine v_iadd X dX10_testifies_90 91 rfl ?_
              refine v_iload_n X dX10_testifies_91 92 rfl 4 rfl ?_
              refine v_muV X hM (h_mo.1) (c_X10_set l E b (updC mo 1 (updZ ((mo 1)) (12 + 30 * k + (6 + 4 * co 6 k + 0)) w)) k (6 + 4 * co 6 k + 1) 0 (by omega) (by omega) (by omega) (by omega)) kvX10_set kiX10_set kl_X10_75 (q0 := 0) rfl rfl (As := [.int (zI k), .int (zI (6 + 4 * co 6 k + 1)), .int (zI 0)]) rfl rfl rfl dX10_testifies_92 95 rfl (k' := 0) (n' := 0) rfl rfl (fsI (fun q q1 q2 => (Or.inl (fsH (by omega) (by omega))))) h_mo (fun rv H12 lo12 hM hF hpo => ?_)
              obtain ⟨rfl, hw_0⟩ := hpo
              have h_mo : PR E b (modelW E b (updC mo 1 (updZ ((updZ ((mo 1)) (12 + 30 * k + (6 + 4 * co 6 k + 0)) w)) (12 + 30 * k + (6 + 4 * co 6 k + 1)) 0))) H12 := hw_0
              show V p l e (rmL 2 0 0) s m args below meth cd Q 6 H12 lo12 0 0 95 [(5, .int (zI (co 6 k))), (0, .ref b), (1, .int (zI k)), (2, .int (zI w)), (3, .int (zI 0)), (4, .int (zI z))] []
              refine v_aload_n X dX10_testifies_95 96 rfl 1 rfl ?_
              refine v_iload_n X dX10_testifies_96 97 rfl 2 rfl ?_
              refine v_bipush X dX10_testifies_97 99 rfl rfl ?_
              refine v_iconst X dX10_testifies_99 100 rfl ?_
              refine v_iload X dX10_testifies_100 102 rfl 0 rfl ?_
              refine v_imul X dX10_testifies_102 103 rfl ?_
              refine v_iadd X dX10_testifies_103 104 rfl ?_
              refine v_iconst X dX10_testifies_104 105 rfl ?_
              refine v_iadd X dX10_testifies_105 106 rfl ?_
              refine v_iload X dX10_testifies_106 108 rfl 5 rfl ?_
              refine v_muV X hM (h_mo.1) (c_X10_set l E b (updC mo 1 (updZ ((updZ ((mo 1)) (12 + 30 * k + (6 + 4 * co 6 k + 0)) w)) (12 + 30 * k + (6 + 4 * co 6 k + 1)) 0)) k (6 + 4 * co 6 k + 2) z (by omega) (by omega) (by omega) (by omega)) kvX10_set kiX10_set kl_X10_75 (q0 := 0) rfl rfl (As := [.int (zI k), .int (zI (6 + 4 * co 6 k + 2)), .int (zI z)]) rfl rfl rfl dX10_testifies_108 111 rfl (k' := 0) (n' := 0) rfl rfl (fsI (fun q q1 q2 => (Or.inl (fsH (by omega) (by omega))))) h_mo (fun rv H13 lo13 hM hF hpo => ?_)
              obtain ⟨rfl, hw_0⟩ := hpo
              have h_mo : PR E b (modelW E b (updC mo 1 (updZ ((updZ ((updZ ((mo 1)) (12 + 30 * k + (6 + 4 * co 6 k + 0)) w)) (12 + 30 * k + (6 + 4 * co 6 k + 1)) 0)) (12 + 30 * k + (6 + 4 * co 6 k + 2)) z))) H13 := hw_0
              show V p l e (rmL 2 0 0) s m args below meth cd Q 6 H13 lo13 0 0 111 [(5, .int (zI (co 6 k))), (0, .ref b), (1, .int (zI k)), (2, .int (zI w)), (3, .int (zI 0)), (4, .int (zI z))] []
              refine v_aload_n X dX10_testifies_111 112 rfl 1 rfl ?_
              refine v_iload_n X dX10_testifies_112 113 rfl 2 rfl ?_
              refine v_bipush X dX10_testifies_113 115 rfl rfl ?_
              refine v_iconst X dX10_testifies_115 116 rfl ?_
              refine v_iload X dX10_testifies_116 118 rfl 0 rfl ?_
              refine v_imul X dX10_testifies_118 119 rfl ?_
              refine v_iadd X dX10_testifies_119 120 rfl ?_
              refine v_iconst X dX10_testifies_120 121 rfl ?_
              refine v_iadd X dX10_testifies_121 122 rfl ?_
              refine v_iconst X dX10_testifies_122 123 rfl ?_
              refine v_muV X hM (h_mo.1) (c_X10_set l E b (updC mo 1 (updZ ((updZ ((updZ ((mo 1)) (12 + 30 * k + (6 + 4 * co 6 k + 0)) w)) (12 + 30 * k + (6 + 4 * co 6 k + 1)) 0)) (12 + 30 * k + (6 + 4 * co 6 k + 2)) z)) k (6 + 4 * co 6 k + 3) 0 (by omega) (by omega) (by omega) (by omega)) kvX10_set kiX10_set kl_X10_75 (q0 := 0) rfl rfl (As := [.int (zI k), .int (zI (6 + 4 * co 6 k + 3)), .int (zI 0)]) rfl rfl rfl dX10_testifies_123 126 rfl (k' := 0) (n' := 0) rfl rfl (fsI (fun q q1 q2 => (Or.inl (fsH (by omega) (by omega))))) h_mo (fun rv H14 lo14 hM hF hpo => ?_)
              obtain ⟨rfl, hw_0⟩ := hpo
              have h_mo : PR E b (modelW E b (updC mo 1 (updZ ((updZ ((updZ ((updZ ((mo 1)) (12 + 30 * k + (6 + 4 * co 6 k + 0)) w)) (12 + 30 * k + (6 + 4 * co 6 k + 1)) 0)) (12 + 30 * k + (6 + 4 * co 6 k + 2)) z)) (12 + 30 * k + (6 + 4 * co 6 k + 3)) 0))) H14 := hw_0
              show V p l e (rmL 2 0 0) s m args below meth cd Q 6 H14 lo14 0 0 126 [(5, .int (zI (co 6 k))), (0, .ref b), (1, .int (zI k)), (2, .int (zI w)), (3, .int (zI 0)), (4, .int (zI z))] []
              refine v_aload_n X dX10_testifies_126 127 rfl 1 rfl ?_
              refine v_iload_n X dX10_testifies_127 128 rfl 2 rfl ?_
              refine v_iconst X dX10_testifies_128 129 rfl ?_
              refine v_iload X dX10_testifies_129 131 rfl 0 rfl ?_
              refine v_iconst X dX10_testifies_131 132 rfl ?_
              refine v_iadd X dX10_testifies_132 133 rfl ?_
              refine v_muV X hM (h_mo.1) (c_X10_set l E b (updC mo 1 (updZ ((updZ ((updZ ((updZ ((mo 1)) (12 + 30 * k + (6 + 4 * co 6 k + 0)) w)) (12 + 30 * k + (6 + 4 * co 6 k + 1)) 0)) (12 + 30 * k + (6 + 4 * co 6 k + 2)) z)) (12 + 30 * k + (6 + 4 * co 6 k + 3)) 0)) k 5 (co 6 k + 1) (by omega) (by omega) (by omega) (by omega)) kvX10_set kiX10_set kl_X10_75 (q0 := 0) rfl rfl (As := [.int (zI k), .int (zI 5), .int (zI (co 6 k + 1))]) rfl rfl rfl dX10_testifies_133 136 rfl (k' := 0) (n' := 0) rfl rfl (fsI (fun q q1 q2 => (Or.inl (fsH (by omega) (by omega))))) h_mo (fun rv H15 lo15 hM hF hpo => ?_)
              obtain ⟨rfl, hw_0⟩ := hpo
              have h_mo : PR E b (modelW E b (updC mo 1 (updZ ((updZ ((updZ ((updZ ((updZ ((mo 1)) (12 + 30 * k + (6 + 4 * co 6 k + 0)) w)) (12 + 30 * k + (6 + 4 * co 6 k + 1)) 0)) (12 + 30 * k + (6 + 4 * co 6 k + 2)) z)) (12 + 30 * k + (6 + 4 * co 6 k + 3)) 0)) (12 + 30 * k + 5) (co 6 k + 1)))) H15 := hw_0
              show V p l e (rmL 2 0 0) s m args below meth cd Q 6 H15 lo15 0 0 136 [(5, .int (zI (co 6 k))), (0, .ref b), (1, .int (zI k)), (2, .int (zI w)), (3, .int (zI 0)), (4, .int (zI z))] []
              refine v_aload_n X dX10_testifies_136 137 rfl 1 rfl ?_
              refine v_iload X dX10_testifies_137 139 rfl 0 rfl ?_
              refine v_iconst X dX10_testifies_139 140 rfl ?_
              refine v_iadd X dX10_testifies_140 141 rfl ?_
              refine v_putf X hM h_mo ftX10 0 rfl rfl 4 (by decide) kf_X10_40 (fun _ h => h) rfl rfl rfl (Nat.le_of_ble_eq_true rfl) (Or.inl (fsH (by omega) (by omega))) dX10_testifies_141 144 rfl (ws' := modelW E b (updC (updC mo 0 (updZ (mo 0) 4 (co 6 k + 1))) 1 (updZ ((updZ ((updZ ((updZ ((updZ ((mo 1)) (12 + 30 * k + (6 + 4 * co 6 k + 0)) w)) (12 + 30 * k + (6 + 4 * co 6 k + 1)) 0)) (12 + 30 * k + (6 + 4 * co 6 k + 2)) z)) (12 + 30 * k + (6 + 4 * co 6 k + 3)) 0)) (12 + 30 * k + 5) (co 6 k + 1)))) rfl (fun H16 lo16 hzz hM hF h_mo => ?_)
              clear hzz
              refine v_iconst X dX10_testifies_144 145 rfl ?_
              subst hQ; exact m_iret X hr hlk hM dX10_testifies_145 rfl ⟨(updZ ((updZ ((updZ ((updZ ((updZ ((mo 1)) (12 + 30 * k + (6 + 4 * co 6 k + 0)) w)) (12 + 30 * k + (6 + 4 * co 6 k + 1)) 0)) (12 + 30 * k + (6 + 4 * co 6 k + 2)) z)) (12 + 30 * k + (6 + 4 * co 6 k + 3)) 0)) (12 + 30 * k + 5) (co 6 k + 1)), rfl, (by show RelC (hearC0 co k w z) _; exact rel_hearC0 hO hR hI (by omega) (by omega) (by omega) (by omega) (by omega) (by omega)), (by intro i hi; simp only [updZ, clA, if_true, if_false]; omega), (PR.to h_mo (by rw [show opV co 2 k w 0 z = co 6 k + 1 by rfl]))⟩
            · skip
              exfalso; omega
      · skip
        exfalso; omega
    · skip
      exfalso; omega
set_option maxHeartbeats 4000000 in
set_option maxRecDepth 20000 in
theorem c_X10_asks_ok_1 (l : Launch) (E : Nat → Nat → Nat) (b : Nat) (mo : Nat → Int → Int) (co : Nat → Int → Int) (k : Int) (w : Int) (hO : OkC co) (hR : RelC co (mo 1)) (hI : TsI co) (gk : Rg k) (gw : Rg w) (hf : flC co 3 k w 0 = 0) : Mu l yX10_asks cX10_asks 6 (some .int) 2 0 0 E [(b, 5)] [.ref b, .int (zI k), .int (zI w), .int (zI 1)] (fun H => PR E b (modelW E b mo) H) (fun rv H => ∃ g1 : Int → Int, rv = some (.int (zI 0)) ∧ RelC (opC co 3 k w 1 0) g1 ∧ (∀ i : Int, 492 ≤ i → g1 i = mo 1 i) ∧ PR E b (modelW E b (updC (updC mo 0 (updZ (mo 0) 4 (opV co 3 k w 1 0))) 1 g1)) H) := by
  refine Mu.start (own := RX10) rfl (by decide +kernel) (Nat.le_of_ble_eq_true rfl) ?_
  intro p e s m below meth cd args Q hQ X hr hlk hnm hM hPr
  have h_mo := hPr
  have hb0 := hO.b0
  have hbw := hO.bw
  have hr0 := hR.s0
  have hr1 := hR.s1
  have hq := flC_3 hf
  have hsp := swC_iff (co := co) (k := k) (w := w) hO hI (by omega) (by omega) (by omega) (by omega)
  have hsb := swC_b hO k w
  have hb11 := hO.b11 w
  refine v_aload_n X dX10_asks_0 1 rfl 0 rfl ?_
  refine v_iload_n X dX10_asks_1 2 rfl 1 rfl ?_
  refine v_rdV X hM.C h_mo.1 (c_X10_isCase l E b mo co k hO hR gk) kvX10_isCase kiX10_isCase kl_X10_92 rfl rfl (As := [.int (zI k)]) rfl rfl rfl dX10_asks_2 5 rfl ?_
  show V p l e (rmL 2 0 0) s m args below meth cd Q 6 s.heap [] 0 0 5 [(0, .ref b), (1, .int (zI k)), (2, .int (zI w)), (3, .int (zI 1))] [.int (zI (bz (0 ≤ k ∧ k < co 0 0)))]
  refine v_bif_eq X dX10_asks_5 8 16 rfl (by decide) (fun c_1 => ?_) (fun c_1 => ?_)
  · skip
    exfalso; omega
  · skip
    refine v_aload_n X dX10_asks_8 9 rfl 0 rfl ?_
    refine v_iload_n X dX10_asks_9 10 rfl 2 rfl ?_
    refine v_rdV X hM.C h_mo.1 (c_X10_isWitness l E b mo co w hO hR gw) kvX10_isWitness kiX10_isWitness kl_X10_95 rfl rfl (As := [.int (zI w)]) rfl rfl rfl dX10_asks_10 13 rfl ?_
    show V p l e (rmL 2 0 0) s m args below meth cd Q 6 s.heap [] 0 0 13 [(0, .ref b), (1, .int (zI k)), (2, .int (zI w)), (3, .int (zI 1))] [.int (zI (bz (0 ≤ w ∧ w < co 0 1)))]
    refine v_bif_ne X dX10_asks_13 16 18 rfl (by decide) (fun c_2 => ?_) (fun c_2 => ?_)
    · skip
      refine v_aload_n X dX10_asks_18 19 rfl 0 rfl ?_
      refine v_iload_n X dX10_asks_19 20 rfl 1 rfl ?_
      refine v_iload_n X dX10_asks_20 21 rfl 2 rfl ?_
      have hb_3 := hO.b0
      refine v_rdV X hM.C h_mo.1 (c_X10_spokenBy l E b mo co k w hO hR (by omega) (by omega) gw) kvX10_spokenBy kiX10_spokenBy kl_X10_98 rfl rfl (As := [.int (zI k), .int (zI w)]) rfl rfl rfl dX10_asks_21 24 rfl ?_
      show V p l e (rmL 2 0 0) s m args below meth cd Q 6 s.heap [] 0 0 24 [(0, .ref b), (1, .int (zI k)), (2, .int (zI w)), (3, .int (zI 1))] [.int (zI (swC co k w))]
      have hf_4 := swC_b hO k w
      refine v_istore X dX10_asks_24 26 rfl (by decide) (L' := [(4, .int (zI (swC co k w))), (0, .ref b), (1, .int (zI k)), (2, .int (zI w)), (3, .int (zI 1))]) rfl ?_
      refine v_iload X dX10_asks_26 28 rfl 0 rfl ?_
      refine v_if_ge X (by omega) dX10_asks_28 31 33 rfl (by decide) (fun c_5 => ?_) (fun c_5 => ?_)
      · skip
        refine v_aload_n X dX10_asks_33 34 rfl 1 rfl ?_
        refine v_iload_n X dX10_asks_34 35 rfl 2 rfl ?_
        refine v_iconst X dX10_asks_35 36 rfl ?_
        refine v_rdV X hM.C h_mo.1 (c_X10_c_2 l E b mo co k hO hR (by omega) (by omega)) kvX10_c kiX10_c kl_X10_47 rfl rfl (As := [.int (zI k), .int (zI 2)]) rfl rfl rfl dX10_asks_36 39 rfl ?_
        show V p l e (rmL 2 0 0) s m args below meth cd Q 6 s.heap [] 0 0 39 [(4, .int (zI (swC co k w))), (0, .ref b), (1, .int (zI k)), (2, .int (zI w)), (3, .int (zI 1))] [.int (zI (co 3 k))]
        have hb_6 := hO.b3 k
        refine v_if_ne X (by omega) dX10_asks_39 42 54 rfl (by decide) (fun c_7 => ?_) (fun c_7 => ?_)
        · skip
          exfalso; omega
        · skip
          refine v_aload_n X dX10_asks_42 43 rfl 1 rfl ?_
          refine v_iload_n X dX10_asks_43 44 rfl 2 rfl ?_
          refine v_iload X dX10_asks_44 46 rfl 0 rfl ?_
          refine v_iconst X dX10_asks_46 47 rfl ?_
          have hb_8 := hO.b6 k
          refine v_rdV X hM.C h_mo.1 (c_X10_t_3 l E b mo co k (swC co k w) hO hR (by omega) (by omega) (by omega) (by omega)) kvX10_t kiX10_t kl_X10_51 rfl rfl (As := [.int (zI k), .int (zI (swC co k w)), .int (zI 3)]) rfl rfl rfl dX10_asks_47 50 rfl ?_
          show V p l e (rmL 2 0 0) s m args below meth cd Q 6 s.heap [] 0 0 50 [(4, .int (zI (swC co k w))), (0, .ref b), (1, .int (zI k)), (2, .int (zI w)), (3, .int (zI 1))] [.int (zI (co 10 (k * 8 + co 7 (k * 6 + (swC co k w)))))]
          have hb_9 := hO.b10 (k * 8 + co 7 (k * 6 + (swC co k w)))
          have hb_10 := hO.b7 (k * 6 + (swC co k w))
          refine V_S (st' := [.int (zI (co 10 (k * 8 + w)))]) (by rw [swC_at (co := co) (k := k) (w := w) (by omega)]) ?_
          refine v_iconst X dX10_asks_50 51 rfl ?_
          have hb_12 := hO.b10 (k * 8 + w)
          refine v_icmp_ne X (by omega) (by omega) dX10_asks_51 54 56 rfl (by decide) (fun c_11 => ?_) (fun c_11 => ?_)
          · skip
            refine v_aload_n X dX10_asks_56 57 rfl 1 rfl ?_
            refine v_iload_n X dX10_asks_57 58 rfl 2 rfl ?_
            refine v_bipush X dX10_asks_58 60 rfl rfl ?_
            refine v_iconst X dX10_asks_60 61 rfl ?_
            refine v_iload X dX10_asks_61 63 rfl 0 rfl ?_
            refine v_imul X dX10_asks_63 64 rfl ?_
            refine v_iadd X dX10_asks_64 65 rfl ?_
            refine v_iconst X dX10_asks_65 66 rfl ?_
            refine v_iadd X dX10_asks_66 67 rfl ?_
            refine v_aload_n X dX10_asks_67 68 rfl 1 rfl ?_
            refine v_iload_n X dX10_asks_68 69 rfl 2 rfl ?_
            refine v_iload X dX10_asks_69 71 rfl 0 rfl ?_
            refine v_iconst X dX10_asks_71 72 rfl ?_
            refine v_rdV X hM.C h_mo.1 (c_X10_t_3 l E b mo co k (swC co k w) hO hR (by omega) (by omega) (by omega) (by omega)) kvX10_t kiX10_t kl_X10_51 rfl rfl (As := [.int (zI k), .int (zI (swC co k w)), .int (zI 3)]) rfl rfl rfl dX10_asks_72 75 rfl ?_
            show V p l e (rmL 2 0 0) s m args below meth cd Q 6 s.heap [] 0 0 75 [(4, .int (zI (swC co k w))), (0, .ref b), (1, .int (zI k)), (2, .int (zI w)), (3, .int (zI 1))] [.int (zI (co 10 (k * 8 + co 7 (k * 6 + (swC co k w))))), .int (zI (6 + 4 * swC co k w + 3)), .int (zI k), .ref b]
            refine V_S (st' := [.int (zI (co 10 (k * 8 + w))), .int (zI (6 + 4 * swC co k w + 3)), .int (zI k), .ref b]) (by rw [swC_at (co := co) (k := k) (w := w) (by omega)]) ?_
            refine v_iconst X dX10_asks_75 76 rfl ?_
            refine v_iadd X dX10_asks_76 77 rfl ?_
            refine v_muV X hM (h_mo.1) (c_X10_set l E b mo k (6 + 4 * swC co k w + 3) (co 10 (k * 8 + w) + 1) (by omega) (by omega) (by omega) (by omega)) kvX10_set kiX10_set kl_X10_75 (q0 := 0) rfl rfl (As := [.int (zI k), .int (zI (6 + 4 * swC co k w + 3)), .int (zI (co 10 (k * 8 + w) + 1))]) rfl rfl rfl dX10_asks_77 80 rfl (k' := 0) (n' := 0) rfl rfl (fsI (fun q q1 q2 => (Or.inl (fsH (by omega) (by omega))))) h_mo (fun rv H13 lo13 hM hF hpo => ?_)
            obtain ⟨rfl, hw_0⟩ := hpo
            have h_mo : PR E b (modelW E b (updC mo 1 (updZ ((mo 1)) (12 + 30 * k + (6 + 4 * swC co k w + 3)) (co 10 (k * 8 + w) + 1)))) H13 := hw_0
            show V p l e (rmL 2 0 0) s m args below meth cd Q 6 H13 lo13 0 0 80 [(4, .int (zI (swC co k w))), (0, .ref b), (1, .int (zI k)), (2, .int (zI w)), (3, .int (zI 1))] []
            refine v_aload_n X dX10_asks_80 81 rfl 1 rfl ?_
            refine v_getf X hM.C h_mo.1 inX10 0 rfl rfl 1 (by decide) kf_X10_9 (fun _ h => h) rfl dX10_asks_81 84 rfl ?_
            refine v_iconst X dX10_asks_84 85 rfl ?_
            refine v_iload_n X dX10_asks_85 86 rfl 3 rfl ?_
            refine v_iadd X dX10_asks_86 87 rfl ?_
            refine v_iald X hM.C h_mo.1 1 rfl (by omega) (by omega) (by omega) dX10_asks_87 88 rfl ?_
            show V p l e (rmL 2 0 0) s m args below meth cd Q 6 H13 lo13 0 0 88 [(4, .int (zI (swC co k w))), (0, .ref b), (1, .int (zI k)), (2, .int (zI w)), (3, .int (zI 1))] [.int (zI ((updZ (mo 1) (12 + 30 * k + (6 + 4 * swC co k w + 3)) (co 10 (k * 8 + w) + 1)) (4 + w)))]
            refine V_S (st' := [.int (zI (co 11 w))]) (by rw [updZ_ne _ _ (by omega), hR.w (by omega) (by omega)]) ?_
            refine v_iload_n X dX10_asks_88 89 rfl 4 rfl ?_
            refine v_if_eq X (by omega) dX10_asks_89 92 96 rfl (by decide) (fun c_14 => ?_) (fun c_14 => ?_)
            · skip
              exfalso; omega
            · skip
              refine v_iconst X dX10_asks_92 93 rfl ?_
              refine v_goto X dX10_asks_93 98 (by decide) ?_
              refine v_iadd X dX10_asks_98 99 rfl ?_
              refine v_istore X dX10_asks_99 101 rfl (by decide) (L' := [(5, .int (zI (co 11 w + 1))), (4, .int (zI (swC co k w))), (0, .ref b), (1, .int (zI k)), (2, .int (zI w)), (3, .int (zI 1))]) rfl ?_
              refine v_aload_n X dX10_asks_101 102 rfl 2 rfl ?_
              refine v_iload X dX10_asks_102 104 rfl 0 rfl ?_
              refine v_bipush X dX10_asks_104 106 rfl rfl ?_
              have hb_16 := hO.b11 w
              refine v_icmp_le X (by omega) (by omega) dX10_asks_106 109 114 rfl (by decide) (fun c_15 => ?_) (fun c_15 => ?_)
              · skip
                refine v_iload X dX10_asks_114 116 rfl 0 rfl ?_
                refine v_if_ge X (by omega) dX10_asks_116 119 123 rfl (by decide) (fun c_17 => ?_) (fun c_17 => ?_)
                · skip
                  refine v_iload X dX10_asks_123 125 rfl 0 rfl ?_
                  refine V_S (st' := [.int (zI (min (co 11 w + 1) 9)), .ref b]) (by exact congrArg (fun q : Int => [Value.int (zI q), Value.ref b]) (by omega)) ?_
                  refine v_putf X hM h_mo ftX10 0 rfl rfl 4 (by decide) kf_X10_40 (fun _ h => h) rfl rfl rfl (Nat.le_of_ble_eq_true rfl) (Or.inl (fsH (by omega) (by omega))) dX10_asks_125 128 rfl (ws' := modelW E b (updC (updC mo 0 (updZ (mo 0) 4 (min (co 11 w + 1) 9))) 1 (updZ ((mo 1)) (12 + 30 * k + (6 + 4 * swC co k w + 3)) (co 10 (k * 8 + w) + 1)))) rfl (fun H18 lo18 hzz hM hF h_mo => ?_)
                  clear hzz
                  refine v_aload_n X dX10_asks_128 129 rfl 2 rfl ?_
                  refine v_getf X hM.C h_mo.1 inX10 0 rfl rfl 1 (by decide) kf_X10_9 (fun _ h => h) rfl dX10_asks_129 132 rfl ?_
                  refine v_iconst X dX10_asks_132 133 rfl ?_
                  refine v_iload_n X dX10_asks_133 134 rfl 4 rfl ?_
                  refine v_iadd X dX10_asks_134 135 rfl ?_
                  refine v_aload_n X dX10_asks_135 136 rfl 2 rfl ?_
                  refine v_getf X hM.C h_mo.1 inX10 0 rfl rfl 4 (by decide) kf_X10_40 (fun _ h => h) rfl dX10_asks_136 139 rfl ?_
                  show V p l e (rmL 2 0 0) s m args below meth cd Q 6 H18 lo18 0 0 139 [(5, .int (zI (co 11 w + 1))), (4, .int (zI (swC co k w))), (0, .ref b), (1, .int (zI k)), (2, .int (zI w)), (3, .int (zI 1))] [.int (zI (min (co 11 w + 1) 9)), .int (zI (4 + w)), .ref (b + 1)]
                  refine v_iast X hM h_mo 1 rfl (by omega) (by omega) (by omega) (Or.inl (fsH (by omega) (by omega))) dX10_asks_139 140 rfl (ws' := modelW E b (updC (updC mo 0 (updZ (mo 0) 4 (min (co 11 w + 1) 9))) 1 (updZ (updZ ((mo 1)) (12 + 30 * k + (6 + 4 * swC co k w + 3)) (co 10 (k * 8 + w) + 1)) (4 + w) (min (co 11 w + 1) 9)))) rfl (fun H19 lo19 hzz hM hF h_mo => ?_)
                  clear hzz
                  refine v_aload_n X dX10_asks_140 141 rfl 2 rfl ?_
                  refine v_getf X hM.C h_mo.1 inX10 0 rfl rfl 1 (by decide) kf_X10_9 (fun _ h => h) rfl dX10_asks_141 144 rfl ?_
                  refine v_iconst X dX10_asks_144 145 rfl ?_
                  refine v_dup2 X dX10_asks_145 146 rfl rfl rfl ?_
                  refine v_iald X hM.C h_mo.1 1 rfl (by omega) (by omega) (by omega) dX10_asks_146 147 rfl ?_
                  show V p l e (rmL 2 0 0) s m args below meth cd Q 6 H19 lo19 0 0 147 [(5, .int (zI (co 11 w + 1))), (4, .int (zI (swC co k w))), (0, .ref b), (1, .int (zI k)), (2, .int (zI w)), (3, .int (zI 1))] [.int (zI ((updZ (updZ (mo 1) (12 + 30 * k + (6 + 4 * swC co k w + 3)) (co 10 (k * 8 + w) + 1)) (4 + w) (min (co 11 w + 1) 9)) 3)), .int (zI 3), .ref (b + 1)]
                  refine V_S (st' := [.int (zI (mo 1 3)), .int (zI 3), .ref (b + 1)]) (by rw [updZ_ne _ _ (by omega), updZ_ne _ _ (by omega)]) ?_
                  refine v_iconst X dX10_asks_147 148 rfl ?_
                  refine v_iadd X dX10_asks_148 149 rfl ?_
                  refine v_iast X hM h_mo 1 rfl (by omega) (by omega) (by omega) (Or.inl (fsH (by omega) (by omega))) dX10_asks_149 150 rfl (ws' := modelW E b (updC (updC mo 0 (updZ (mo 0) 4 (min (co 11 w + 1) 9))) 1 (updZ (updZ (updZ ((mo 1)) (12 + 30 * k + (6 + 4 * swC co k w + 3)) (co 10 (k * 8 + w) + 1)) (4 + w) (min (co 11 w + 1) 9)) 3 (mo 1 3 + 1)))) rfl (fun H20 lo20 hzz hM hF h_mo => ?_)
                  clear hzz
                  refine v_iconst X dX10_asks_150 151 rfl ?_
                  subst hQ; exact m_iret X hr hlk hM dX10_asks_151 rfl ⟨(updZ (updZ (updZ ((mo 1)) (12 + 30 * k + (6 + 4 * swC co k w + 3)) (co 10 (k * 8 + w) + 1)) (4 + w) (min (co 11 w + 1) 9)) 3 (mo 1 3 + 1)), rfl, (by show RelC (askC1 co k w) _; exact rel_askC1 hO hR hI (by omega) (by omega) (by omega) (by omega) (by omega)), (by intro i hi; simp only [updZ, clA, if_true, if_false]; omega), (PR.to h_mo (by rw [show opV co 3 k w 1 0 = min (co 11 w + 1) 9 by rfl]))⟩
                · skip
                  refine v_iconst X dX10_asks_119 120 rfl ?_
                  refine v_goto X dX10_asks_120 125 (by decide) ?_
                  refine V_S (st' := [.int (zI (min (co 11 w + 1) 9)), .ref b]) (by exact congrArg (fun q : Int => [Value.int (zI q), Value.ref b]) (by omega)) ?_
                  refine v_putf X hM h_mo ftX10 0 rfl rfl 4 (by decide) kf_X10_40 (fun _ h => h) rfl rfl rfl (Nat.le_of_ble_eq_true rfl) (Or.inl (fsH (by omega) (by omega))) dX10_asks_125 128 rfl (ws' := modelW E b (updC (updC mo 0 (updZ (mo 0) 4 (min (co 11 w + 1) 9))) 1 (updZ ((mo 1)) (12 + 30 * k + (6 + 4 * swC co k w + 3)) (co 10 (k * 8 + w) + 1)))) rfl (fun H21 lo21 hzz hM hF h_mo => ?_)
                  clear hzz
                  refine v_aload_n X dX10_asks_128 129 rfl 2 rfl ?_
                  refine v_getf X hM.C h_mo.1 inX10 0 rfl rfl 1 (by decide) kf_X10_9 (fun _ h => h) rfl dX10_asks_129 132 rfl ?_
                  refine v_iconst X dX10_asks_132 133 rfl ?_
                  refine v_iload_n X dX10_asks_133 134 rfl 4 rfl ?_
                  refine v_iadd X dX10_asks_134 135 rfl ?_
                  refine v_aload_n X dX10_asks_135 136 rfl 2 rfl ?_
                  refine v_getf X hM.C h_mo.1 inX10 0 rfl rfl 4 (by decide) kf_X10_40 (fun _ h => h) rfl dX10_asks_136 139 rfl ?_
                  show V p l e (rmL 2 0 0) s m args below meth cd Q 6 H21 lo21 0 0 139 [(5, .int (zI (co 11 w + 1))), (4, .int (zI (swC co k w))), (0, .ref b), (1, .int (zI k)), (2, .int (zI w)), (3, .int (zI 1))] [.int (zI (min (co 11 w + 1) 9)), .int (zI (4 + w)), .ref (b + 1)]
                  refine v_iast X hM h_mo 1 rfl (by omega) (by omega) (by omega) (Or.inl (fsH (by omega) (by omega))) dX10_asks_139 140 rfl (ws' := modelW E b (updC (updC mo 0 (updZ (mo 0) 4 (min (co 11 w + 1) 9))) 1 (updZ (updZ ((mo 1)) (12 + 30 * k + (6 + 4 * swC co k w + 3)) (co 10 (k * 8 + w) + 1)) (4 + w) (min (co 11 w + 1) 9)))) rfl (fun H22 lo22 hzz hM hF h_mo => ?_)
                  clear hzz
                  refine v_aload_n X dX10_asks_140 141 rfl 2 rfl ?_
                  refine v_getf X hM.C h_mo.1 inX10 0 rfl rfl 1 (by decide) kf_X10_9 (fun _ h => h) rfl dX10_asks_141 144 rfl ?_
                  refine v_iconst X dX10_asks_144 145 rfl ?_
                  refine v_dup2 X dX10_asks_145 146 rfl rfl rfl ?_
                  refine v_iald X hM.C h_mo.1 1 rfl (by omega) (by omega) (by omega) dX10_asks_146 147 rfl ?_
                  show V p l e (rmL 2 0 0) s m args below meth cd Q 6 H22 lo22 0 0 147 [(5, .int (zI (co 11 w + 1))), (4, .int (zI (swC co k w))), (0, .ref b), (1, .int (zI k)), (2, .int (zI w)), (3, .int (zI 1))] [.int (zI ((updZ (updZ (mo 1) (12 + 30 * k + (6 + 4 * swC co k w + 3)) (co 10 (k * 8 + w) + 1)) (4 + w) (min (co 11 w + 1) 9)) 3)), .int (zI 3), .ref (b + 1)]
                  refine V_S (st' := [.int (zI (mo 1 3)), .int (zI 3), .ref (b + 1)]) (by rw [updZ_ne _ _ (by omega), updZ_ne _ _ (by omega)]) ?_
                  refine v_iconst X dX10_asks_147 148 rfl ?_
                  refine v_iadd X dX10_asks_148 149 rfl ?_
                  refine v_iast X hM h_mo 1 rfl (by omega) (by omega) (by omega) (Or.inl (fsH (by omega) (by omega))) dX10_asks_149 150 rfl (ws' := modelW E b (updC (updC mo 0 (updZ (mo 0) 4 (min (co 11 w + 1) 9))) 1 (updZ (updZ (updZ ((mo 1)) (12 + 30 * k + (6 + 4 * swC co k w + 3)) (co 10 (k * 8 + w) + 1)) (4 + w) (min (co 11 w + 1) 9)) 3 (mo 1 3 + 1)))) rfl (fun H23 lo23 hzz hM hF h_mo => ?_)
                  clear hzz
                  refine v_iconst X dX10_asks_150 151 rfl ?_
                  subst hQ; exact m_iret X hr hlk hM dX10_asks_151 rfl ⟨(updZ (updZ (updZ ((mo 1)) (12 + 30 * k + (6 + 4 * swC co k w + 3)) (co 10 (k * 8 + w) + 1)) (4 + w) (min (co 11 w + 1) 9)) 3 (mo 1 3 + 1)), rfl, (by show RelC (askC1 co k w) _; exact rel_askC1 hO hR hI (by omega) (by omega) (by omega) (by omega) (by omega)), (by intro i hi; simp only [updZ, clA, if_true, if_false]; omega), (PR.to h_mo (by rw [show opV co 3 k w 1 0 = min (co 11 w + 1) 9 by rfl]))⟩
              · skip
                refine v_bipush X dX10_asks_109 111 rfl rfl ?_
                refine v_goto X dX10_asks_111 125 (by decide) ?_
                refine V_S (st' := [.int (zI (min (co 11 w + 1) 9)), .ref b]) (by exact congrArg (fun q : Int => [Value.int (zI q), Value.ref b]) (by omega)) ?_
                refine v_putf X hM h_mo ftX10 0 rfl rfl 4 (by decide) kf_X10_40 (fun _ h => h) rfl rfl rfl (Nat.le_of_ble_eq_true rfl) (Or.inl (fsH (by omega) (by omega))) dX10_asks_125 128 rfl (ws' := modelW E b (updC (updC mo 0 (updZ (mo 0) 4 (min (co 11 w + 1) 9))) 1 (updZ ((mo 1)) (12 + 30 * k + (6 + 4 * swC co k w + 3)) (co 10 (k * 8 + w) + 1)))) rfl (fun H24 lo24 hzz hM hF h_mo => ?_)
                clear hzz
                refine v_aload_n X dX10_asks_128 129 rfl 2 rfl ?_
                refine v_getf X hM.C h_mo.1 inX10 0 rfl rfl 1 (by decide) kf_X10_9 (fun _ h => h) rfl dX10_asks_129 132 rfl ?_
                refine v_iconst X dX10_asks_132 133 rfl ?_
                refine v_iload_n X dX10_asks_133 134 rfl 4 rfl ?_
                refine v_iadd X dX10_asks_134 135 rfl ?_
                refine v_aload_n X dX10_asks_135 136 rfl 2 rfl ?_
                refine v_getf X hM.C h_mo.1 inX10 0 rfl rfl 4 (by decide) kf_X10_40 (fun _ h => h) rfl dX10_asks_136 139 rfl ?_
                show V p l e (rmL 2 0 0) s m args below meth cd Q 6 H24 lo24 0 0 139 [(5, .int (zI (co 11 w + 1))), (4, .int (zI (swC co k w))), (0, .ref b), (1, .int (zI k)), (2, .int (zI w)), (3, .int (zI 1))] [.int (zI (min (co 11 w + 1) 9)), .int (zI (4 + w)), .ref (b + 1)]
                refine v_iast X hM h_mo 1 rfl (by omega) (by omega) (by omega) (Or.inl (fsH (by omega) (by omega))) dX10_asks_139 140 rfl (ws' := modelW E b (updC (updC mo 0 (updZ (mo 0) 4 (min (co 11 w + 1) 9))) 1 (updZ (updZ ((mo 1)) (12 + 30 * k + (6 + 4 * swC co k w + 3)) (co 10 (k * 8 + w) + 1)) (4 + w) (min (co 11 w + 1) 9)))) rfl (fun H25 lo25 hzz hM hF h_mo => ?_)
                clear hzz
                refine v_aload_n X dX10_asks_140 141 rfl 2 rfl ?_
                refine v_getf X hM.C h_mo.1 inX10 0 rfl rfl 1 (by decide) kf_X10_9 (fun _ h => h) rfl dX10_asks_141 144 rfl ?_
                refine v_iconst X dX10_asks_144 145 rfl ?_
                refine v_dup2 X dX10_asks_145 146 rfl rfl rfl ?_
                refine v_iald X hM.C h_mo.1 1 rfl (by omega) (by omega) (by omega) dX10_asks_146 147 rfl ?_
                show V p l e (rmL 2 0 0) s m args below meth cd Q 6 H25 lo25 0 0 147 [(5, .int (zI (co 11 w + 1))), (4, .int (zI (swC co k w))), (0, .ref b), (1, .int (zI k)), (2, .int (zI w)), (3, .int (zI 1))] [.int (zI ((updZ (updZ (mo 1) (12 + 30 * k + (6 + 4 * swC co k w + 3)) (co 10 (k * 8 + w) + 1)) (4 + w) (min (co 11 w + 1) 9)) 3)), .int (zI 3), .ref (b + 1)]
                refine V_S (st' := [.int (zI (mo 1 3)), .int (zI 3), .ref (b + 1)]) (by rw [updZ_ne _ _ (by omega), updZ_ne _ _ (by omega)]) ?_
                refine v_iconst X dX10_asks_147 148 rfl ?_
                refine v_iadd X dX10_asks_148 149 rfl ?_
                refine v_iast X hM h_mo 1 rfl (by omega) (by omega) (by omega) (Or.inl (fsH (by omega) (by omega))) dX10_asks_149 150 rfl (ws' := modelW E b (updC (updC mo 0 (updZ (mo 0) 4 (min (co 11 w + 1) 9))) 1 (updZ (updZ (updZ ((mo 1)) (12 + 30 * k + (6 + 4 * swC co k w + 3)) (co 10 (k * 8 + w) + 1)) (4 + w) (min (co 11 w + 1) 9)) 3 (mo 1 3 + 1)))) rfl (fun H26 lo26 hzz hM hF h_mo => ?_)
                clear hzz
                refine v_iconst X dX10_asks_150 151 rfl ?_
                subst hQ; exact m_iret X hr hlk hM dX10_asks_151 rfl ⟨(updZ (updZ (updZ ((mo 1)) (12 + 30 * k + (6 + 4 * swC co k w + 3)) (co 10 (k * 8 + w) + 1)) (4 + w) (min (co 11 w + 1) 9)) 3 (mo 1 3 + 1)), rfl, (by show RelC (askC1 co k w) _; exact rel_askC1 hO hR hI (by omega) (by omega) (by omega) (by omega) (by omega)), (by intro i hi; simp only [updZ, clA, if_true, if_false]; omega), (PR.to h_mo (by rw [show opV co 3 k w 1 0 = min (co 11 w + 1) 9 by rfl]))⟩
          · skip
            exfalso; omega
      · skip
        exfalso; omega
    · skip
      exfalso; omega
set_option maxHeartbeats 4000000 in
set_option maxRecDepth 20000 in
theorem c_X10_asks_ok_0 (l : Launch) (E : Nat → Nat → Nat) (b : Nat) (mo : Nat → Int → Int) (co : Nat → Int → Int) (k : Int) (w : Int) (hO : OkC co) (hR : RelC co (mo 1)) (hI : TsI co) (gk : Rg k) (gw : Rg w) (hf : flC co 3 k w 0 = 0) : Mu l yX10_asks cX10_asks 6 (some .int) 2 0 0 E [(b, 5)] [.ref b, .int (zI k), .int (zI w), .int (zI 0)] (fun H => PR E b (modelW E b mo) H) (fun rv H => ∃ g1 : Int → Int, rv = some (.int (zI 0)) ∧ RelC (opC co 3 k w 0 0) g1 ∧ (∀ i : Int, 492 ≤ i → g1 i = mo 1 i) ∧ PR E b (modelW E b (updC (updC mo 0 (updZ (mo 0) 4 (opV co 3 k w 0 0))) 1 g1)) H) := by
  refine Mu.start (own := RX10) rfl (by decide +kernel) (Nat.le_of_ble_eq_true rfl) ?_
  intro p e s m below meth cd args Q hQ X hr hlk hnm hM hPr
  have h_mo := hPr
  have hb0 := hO.b0
  have hbw := hO.bw
  have hr0 := hR.s0
  have hr1 := hR.s1
  have hq := flC_3 hf
  have hsp := swC_iff (co := co) (k := k) (w := w) hO hI (by omega) (by omega) (by omega) (by omega)
  have hsb := swC_b hO k w
  have hb11 := hO.b11 w
  refine v_aload_n X dX10_asks_0 1 rfl 0 rfl ?_
  refine v_iload_n X dX10_asks_1 2 rfl 1 rfl ?_
  refine v_rdV X hM.C h_mo.1 (c_X10_isCase l E b mo co k hO hR gk) kvX10_isCase kiX10_isCase kl_X10_92 rfl rfl (As := [.int (zI k)]) rfl rfl rfl dX10_asks_2 5 rfl ?_
  show V p l e (rmL 2 0 0) s m args below meth cd Q 6 s.heap [] 0 0 5 [(0, .ref b), (1, .int (zI k)), (2, .int (zI w)), (3, .int (zI 0))] [.int (zI (bz (0 ≤ k ∧ k < co 0 0)))]
  refine v_bif_eq X dX10_asks_5 8 16 rfl (by decide) (fun c_1 => ?_) (fun c_1 => ?_)
  · skip
    exfalso; omega
  · skip
    refine v_aload_n X dX10_asks_8 9 rfl 0 rfl ?_
    refine v_iload_n X dX10_asks_9 10 rfl 2 rfl ?_
    refine v_rdV X hM.C h_mo.1 (c_X10_isWitness l E b mo co w hO hR gw) kvX10_isWitness kiX10_isWitness kl_X10_95 rfl rfl (As := [.int (zI w)]) rfl rfl rfl dX10_asks_10 13 rfl ?_
    show V p l e (rmL 2 0 0) s m args below meth cd Q 6 s.heap [] 0 0 13 [(0, .ref b), (1, .int (zI k)), (2, .int (zI w)), (3, .int (zI 0))] [.int (zI (bz (0 ≤ w ∧ w < co 0 1)))]
    refine v_bif_ne X dX10_asks_13 16 18 rfl (by decide) (fun c_2 => ?_) (fun c_2 => ?_)
    · skip
      refine v_aload_n X dX10_asks_18 19 rfl 0 rfl ?_
      refine v_iload_n X dX10_asks_19 20 rfl 1 rfl ?_
      refine v_iload_n X dX10_asks_20 21 rfl 2 rfl ?_
      have hb_3 := hO.b0
      refine v_rdV X hM.C h_mo.1 (c_X10_spokenBy l E b mo co k w hO hR (by omega) (by omega) gw) kvX10_spokenBy kiX10_spokenBy kl_X10_98 rfl rfl (As := [.int (zI k), .int (zI w)]) rfl rfl rfl dX10_asks_21 24 rfl ?_
      show V p l e (rmL 2 0 0) s m args below meth cd Q 6 s.heap [] 0 0 24 [(0, .ref b), (1, .int (zI k)), (2, .int (zI w)), (3, .int (zI 0))] [.int (zI (swC co k w))]
      have hf_4 := swC_b hO k w
      refine v_istore X dX10_asks_24 26 rfl (by decide) (L' := [(4, .int (zI (swC co k w))), (0, .ref b), (1, .int (zI k)), (2, .int (zI w)), (3, .int (zI 0))]) rfl ?_
      refine v_iload X dX10_asks_26 28 rfl 0 rfl ?_
      refine v_if_ge X (by omega) dX10_asks_28 31 33 rfl (by decide) (fun c_5 => ?_) (fun c_5 => ?_)
      · skip
        refine v_aload_n X dX10_asks_33 34 rfl 1 rfl ?_
        refine v_iload_n X dX10_asks_34 35 rfl 2 rfl ?_
        refine v_iconst X dX10_asks_35 36 rfl ?_
        refine v_rdV X hM.C h_mo.1 (c_X10_c_2 l E b mo co k hO hR (by omega) (by omega)) kvX10_c kiX10_c kl_X10_47 rfl rfl (As := [.int (zI k), .int (zI 2)]) rfl rfl rfl dX10_asks_36 39 rfl ?_
        show V p l e (rmL 2 0 0) s m args below meth cd Q 6 s.heap [] 0 0 39 [(4, .int (zI (swC co k w))), (0, .ref b), (1, .int (zI k)), (2, .int (zI w)), (3, .int (zI 0))] [.int (zI (co 3 k))]
        have hb_6 := hO.b3 k
        refine v_if_ne X (by omega) dX10_asks_39 42 54 rfl (by decide) (fun c_7 => ?_) (fun c_7 => ?_)
        · skip
          exfalso; omega
        · skip
          refine v_aload_n X dX10_asks_42 43 rfl 1 rfl ?_
          refine v_iload_n X dX10_asks_43 44 rfl 2 rfl ?_
          refine v_iload X dX10_asks_44 46 rfl 0 rfl ?_
          refine v_iconst X dX10_asks_46 47 rfl ?_
          have hb_8 := hO.b6 k
          refine v_rdV X hM.C h_mo.1 (c_X10_t_3 l E b mo co k (swC co k w) hO hR (by omega) (by omega) (by omega) (by omega)) kvX10_t kiX10_t kl_X10_51 rfl rfl (As := [.int (zI k), .int (zI (swC co k w)), .int (zI 3)]) rfl rfl rfl dX10_asks_47 50 rfl ?_
          show V p l e (rmL 2 0 0) s m args below meth cd Q 6 s.heap [] 0 0 50 [(4, .int (zI (swC co k w))), (0, .ref b), (1, .int (zI k)), (2, .int (zI w)), (3, .int (zI 0))] [.int (zI (co 10 (k * 8 + co 7 (k * 6 + (swC co k w)))))]
          have hb_9 := hO.b10 (k * 8 + co 7 (k * 6 + (swC co k w)))
          have hb_10 := hO.b7 (k * 6 + (swC co k w))
          refine V_S (st' := [.int (zI (co 10 (k * 8 + w)))]) (by rw [swC_at (co := co) (k := k) (w := w) (by omega)]) ?_
          refine v_iconst X dX10_asks_50 51 rfl ?_
          have hb_12 := hO.b10 (k * 8 + w)
          refine v_icmp_ne X (by omega) (by omega) dX10_asks_51 54 56 rfl (by decide) (fun c_11 => ?_) (fun c_11 => ?_)
          · skip
            refine v_aload_n X dX10_asks_56 57 rfl 1 rfl ?_
            refine v_iload_n X dX10_asks_57 58 rfl 2 rfl ?_
            refine v_bipush X dX10_asks_58 60 rfl rfl ?_
            refine v_iconst X dX10_asks_60 61 rfl ?_
            refine v_iload X dX10_asks_61 63 rfl 0 rfl ?_
            refine v_imul X dX10_asks_63 64 rfl ?_
            refine v_iadd X dX10_asks_64 65 rfl ?_
            refine v_iconst X dX10_asks_65 66 rfl ?_
            refine v_iadd X dX10_asks_66 67 rfl ?_
            refine v_aload_n X dX10_asks_67 68 rfl 1 rfl ?_
            refine v_iload_n X dX10_asks_68 69 rfl 2 rfl ?_
            refine v_iload X dX10_asks_69 71 rfl 0 rfl ?_
            refine v_iconst X dX10_asks_71 72 rfl ?_
            refine v_rdV X hM.C h_mo.1 (c_X10_t_3 l E b mo co k (swC co k w) hO hR (by omega) (by omega) (by omega) (by omega)) kvX10_t kiX10_t kl_X10_51 rfl rfl (As := [.int (zI k), .int (zI (swC co k w)), .int (zI 3)]) rfl rfl rfl dX10_asks_72 75 rfl ?_
            show V p l e (rmL 2 0 0) s m args below meth cd Q 6 s.heap [] 0 0 75 [(4, .int (zI (swC co k w))), (0, .ref b), (1, .int (zI k)), (2, .int (zI w)), (3, .int (zI 0))] [.int (zI (co 10 (k * 8 + co 7 (k * 6 + (swC co k w))))), .int (zI (6 + 4 * swC co k w + 3)), .int (zI k), .ref b]
            refine V_S (st' := [.int (zI (co 10 (k * 8 + w))), .int (zI (6 + 4 * swC co k w + 3)), .int (zI k), .ref b]) (by rw [swC_at (co := co) (k := k) (w := w) (by omega)]) ?_
            refine v_iconst X dX10_asks_75 76 rfl ?_
            refine v_iadd X dX10_asks_76 77 rfl ?_
            refine v_muV X hM (h_mo.1) (c_X10_set l E b mo k (6 + 4 * swC co k w + 3) (co 10 (k * 8 + w) + 1) (by omega) (by omega) (by omega) (by omega)) kvX10_set kiX10_set kl_X10_75 (q0 := 0) rfl rfl (As := [.int (zI k), .int (zI (6 + 4 * swC co k w + 3)), .int (zI (co 10 (k * 8 + w) + 1))]) rfl rfl rfl dX10_asks_77 80 rfl (k' := 0) (n' := 0) rfl rfl (fsI (fun q q1 q2 => (Or.inl (fsH (by omega) (by omega))))) h_mo (fun rv H13 lo13 hM hF hpo => ?_)
            obtain ⟨rfl, hw_0⟩ := hpo
            have h_mo : PR E b (modelW E b (updC mo 1 (updZ ((mo 1)) (12 + 30 * k + (6 + 4 * swC co k w + 3)) (co 10 (k * 8 + w) + 1)))) H13 := hw_0
            show V p l e (rmL 2 0 0) s m args below meth cd Q 6 H13 lo13 0 0 80 [(4, .int (zI (swC co k w))), (0, .ref b), (1, .int (zI k)), (2, .int (zI w)), (3, .int (zI 0))] []
            refine v_aload_n X dX10_asks_80 81 rfl 1 rfl ?_
            refine v_getf X hM.C h_mo.1 inX10 0 rfl rfl 1 (by decide) kf_X10_9 (fun _ h => h) rfl dX10_asks_81 84 rfl ?_
            refine v_iconst X dX10_asks_84 85 rfl ?_
            refine v_iload_n X dX10_asks_85 86 rfl 3 rfl ?_
            refine v_iadd X dX10_asks_86 87 rfl ?_
            refine v_iald X hM.C h_mo.1 1 rfl (by omega) (by omega) (by omega) dX10_asks_87 88 rfl ?_
            show V p l e (rmL 2 0 0) s m args below meth cd Q 6 H13 lo13 0 0 88 [(4, .int (zI (swC co k w))), (0, .ref b), (1, .int (zI k)), (2, .int (zI w)), (3, .int (zI 0))] [.int (zI ((updZ (mo 1) (12 + 30 * k + (6 + 4 * swC co k w + 3)) (co 10 (k * 8 + w) + 1)) (4 + w)))]
            refine V_S (st' := [.int (zI (co 11 w))]) (by rw [updZ_ne _ _ (by omega), hR.w (by omega) (by omega)]) ?_
            refine v_iload_n X dX10_asks_88 89 rfl 4 rfl ?_
            refine v_if_eq X (by omega) dX10_asks_89 92 96 rfl (by decide) (fun c_14 => ?_) (fun c_14 => ?_)
            · skip
              refine v_bipush X dX10_asks_96 98 rfl rfl ?_
              refine v_iadd X dX10_asks_98 99 rfl ?_
              refine v_istore X dX10_asks_99 101 rfl (by decide) (L' := [(5, .int (zI (co 11 w + (-2)))), (4, .int (zI (swC co k w))), (0, .ref b), (1, .int (zI k)), (2, .int (zI w)), (3, .int (zI 0))]) rfl ?_
              refine v_aload_n X dX10_asks_101 102 rfl 2 rfl ?_
              refine v_iload X dX10_asks_102 104 rfl 0 rfl ?_
              refine v_bipush X dX10_asks_104 106 rfl rfl ?_
              have hb_16 := hO.b11 w
              refine v_icmp_le X (by omega) (by omega) dX10_asks_106 109 114 rfl (by decide) (fun c_15 => ?_) (fun c_15 => ?_)
              · skip
                refine v_iload X dX10_asks_114 116 rfl 0 rfl ?_
                refine v_if_ge X (by omega) dX10_asks_116 119 123 rfl (by decide) (fun c_17 => ?_) (fun c_17 => ?_)
                · skip
                  refine v_iload X dX10_asks_123 125 rfl 0 rfl ?_
                  refine V_S (st' := [.int (zI (max (co 11 w - 2) 0)), .ref b]) (by exact congrArg (fun q : Int => [Value.int (zI q), Value.ref b]) (by omega)) ?_
                  refine v_putf X hM h_mo ftX10 0 rfl rfl 4 (by decide) kf_X10_40 (fun _ h => h) rfl rfl rfl (Nat.le_of_ble_eq_true rfl) (Or.inl (fsH (by omega) (by omega))) dX10_asks_125 128 rfl (ws' := modelW E b (updC (updC mo 0 (updZ (mo 0) 4 (max (co 11 w - 2) 0))) 1 (updZ ((mo 1)) (12 + 30 * k + (6 + 4 * swC co k w + 3)) (co 10 (k * 8 + w) + 1)))) rfl (fun H18 lo18 hzz hM hF h_mo => ?_)
                  clear hzz
                  refine v_aload_n X dX10_asks_128 129 rfl 2 rfl ?_
                  refine v_getf X hM.C h_mo.1 inX10 0 rfl rfl 1 (by decide) kf_X10_9 (fun _ h => h) rfl dX10_asks_129 132 rfl ?_
                  refine v_iconst X dX10_asks_132 133 rfl ?_
                  refine v_iload_n X dX10_asks_133 134 rfl 4 rfl ?_
                  refine v_iadd X dX10_asks_134 135 rfl ?_
                  refine v_aload_n X dX10_asks_135 136 rfl 2 rfl ?_
                  refine v_getf X hM.C h_mo.1 inX10 0 rfl rfl 4 (by decide) kf_X10_40 (fun _ h => h) rfl dX10_asks_136 139 rfl ?_
                  show V p l e (rmL 2 0 0) s m args below meth cd Q 6 H18 lo18 0 0 139 [(5, .int (zI (co 11 w + (-2)))), (4, .int (zI (swC co k w))), (0, .ref b), (1, .int (zI k)), (2, .int (zI w)), (3, .int (zI 0))] [.int (zI (max (co 11 w - 2) 0)), .int (zI (4 + w)), .ref (b + 1)]
                  refine v_iast X hM h_mo 1 rfl (by omega) (by omega) (by omega) (Or.inl (fsH (by omega) (by omega))) dX10_asks_139 140 rfl (ws' := modelW E b (updC (updC mo 0 (updZ (mo 0) 4 (max (co 11 w - 2) 0))) 1 (updZ (updZ ((mo 1)) (12 + 30 * k + (6 + 4 * swC co k w + 3)) (co 10 (k * 8 + w) + 1)) (4 + w) (max (co 11 w - 2) 0)))) rfl (fun H19 lo19 hzz hM hF h_mo => ?_)
                  clear hzz
                  refine v_aload_n X dX10_asks_140 141 rfl 2 rfl ?_
                  refine v_getf X hM.C h_mo.1 inX10 0 rfl rfl 1 (by decide) kf_X10_9 (fun _ h => h) rfl dX10_asks_141 144 rfl ?_
                  refine v_iconst X dX10_asks_144 145 rfl ?_
                  refine v_dup2 X dX10_asks_145 146 rfl rfl rfl ?_
                  refine v_iald X hM.C h_mo.1 1 rfl (by omega) (by omega) (by omega) dX10_asks_146 147 rfl ?_
                  show V p l e (rmL 2 0 0) s m args below meth cd Q 6 H19 lo19 0 0 147 [(5, .int (zI (co 11 w + (-2)))), (4, .int (zI (swC co k w))), (0, .ref b), (1, .int (zI k)), (2, .int (zI w)), (3, .int (zI 0))] [.int (zI ((updZ (updZ (mo 1) (12 + 30 * k + (6 + 4 * swC co k w + 3)) (co 10 (k * 8 + w) + 1)) (4 + w) (max (co 11 w - 2) 0)) 3)), .int (zI 3), .ref (b + 1)]
                  refine V_S (st' := [.int (zI (mo 1 3)), .int (zI 3), .ref (b + 1)]) (by rw [updZ_ne _ _ (by omega), updZ_ne _ _ (by omega)]) ?_
                  refine v_iconst X dX10_asks_147 148 rfl ?_
                  refine v_iadd X dX10_asks_148 149 rfl ?_
                  refine v_iast X hM h_mo 1 rfl (by omega) (by omega) (by omega) (Or.inl (fsH (by omega) (by omega))) dX10_asks_149 150 rfl (ws' := modelW E b (updC (updC mo 0 (updZ (mo 0) 4 (max (co 11 w - 2) 0))) 1 (updZ (updZ (updZ ((mo 1)) (12 + 30 * k + (6 + 4 * swC co k w + 3)) (co 10 (k * 8 + w) + 1)) (4 + w) (max (co 11 w - 2) 0)) 3 (mo 1 3 + 1)))) rfl (fun H20 lo20 hzz hM hF h_mo => ?_)
                  clear hzz
                  refine v_iconst X dX10_asks_150 151 rfl ?_
                  subst hQ; exact m_iret X hr hlk hM dX10_asks_151 rfl ⟨(updZ (updZ (updZ ((mo 1)) (12 + 30 * k + (6 + 4 * swC co k w + 3)) (co 10 (k * 8 + w) + 1)) (4 + w) (max (co 11 w - 2) 0)) 3 (mo 1 3 + 1)), rfl, (by show RelC (askC0 co k w) _; exact rel_askC0 hO hR hI (by omega) (by omega) (by omega) (by omega) (by omega)), (by intro i hi; simp only [updZ, clA, if_true, if_false]; omega), (PR.to h_mo (by rw [show opV co 3 k w 0 0 = max (co 11 w - 2) 0 by rfl]))⟩
                · skip
                  refine v_iconst X dX10_asks_119 120 rfl ?_
                  refine v_goto X dX10_asks_120 125 (by decide) ?_
                  refine V_S (st' := [.int (zI (max (co 11 w - 2) 0)), .ref b]) (by exact congrArg (fun q : Int => [Value.int (zI q), Value.ref b]) (by omega)) ?_
                  refine v_putf X hM h_mo ftX10 0 rfl rfl 4 (by decide) kf_X10_40 (fun _ h => h) rfl rfl rfl (Nat.le_of_ble_eq_true rfl) (Or.inl (fsH (by omega) (by omega))) dX10_asks_125 128 rfl (ws' := modelW E b (updC (updC mo 0 (updZ (mo 0) 4 (max (co 11 w - 2) 0))) 1 (updZ ((mo 1)) (12 + 30 * k + (6 + 4 * swC co k w + 3)) (co 10 (k * 8 + w) + 1)))) rfl (fun H21 lo21 hzz hM hF h_mo => ?_)
                  clear hzz
                  refine v_aload_n X dX10_asks_128 129 rfl 2 rfl ?_
                  refine v_getf X hM.C h_mo.1 inX10 0 rfl rfl 1 (by decide) kf_X10_9 (fun _ h => h) rfl dX10_asks_129 132 rfl ?_
                  refine v_iconst X dX10_asks_132 133 rfl ?_
                  refine v_iload_n X dX10_asks_133 134 rfl 4 rfl ?_
                  refine v_iadd X dX10_asks_134 135 rfl ?_
                  refine v_aload_n X dX10_asks_135 136 rfl 2 rfl ?_
                  refine v_getf X hM.C h_mo.1 inX10 0 rfl rfl 4 (by decide) kf_X10_40 (fun _ h => h) rfl dX10_asks_136 139 rfl ?_
                  show V p l e (rmL 2 0 0) s m args below meth cd Q 6 H21 lo21 0 0 139 [(5, .int (zI (co 11 w + (-2)))), (4, .int (zI (swC co k w))), (0, .ref b), (1, .int (zI k)), (2, .int (zI w)), (3, .int (zI 0))] [.int (zI (max (co 11 w - 2) 0)), .int (zI (4 + w)), .ref (b + 1)]
                  refine v_iast X hM h_mo 1 rfl (by omega) (by omega) (by omega) (Or.inl (fsH (by omega) (by omega))) dX10_asks_139 140 rfl (ws' := modelW E b (updC (updC mo 0 (updZ (mo 0) 4 (max (co 11 w - 2) 0))) 1 (updZ (updZ ((mo 1)) (12 + 30 * k + (6 + 4 * swC co k w + 3)) (co 10 (k * 8 + w) + 1)) (4 + w) (max (co 11 w - 2) 0)))) rfl (fun H22 lo22 hzz hM hF h_mo => ?_)
                  clear hzz
                  refine v_aload_n X dX10_asks_140 141 rfl 2 rfl ?_
                  refine v_getf X hM.C h_mo.1 inX10 0 rfl rfl 1 (by decide) kf_X10_9 (fun _ h => h) rfl dX10_asks_141 144 rfl ?_
                  refine v_iconst X dX10_asks_144 145 rfl ?_
                  refine v_dup2 X dX10_asks_145 146 rfl rfl rfl ?_
                  refine v_iald X hM.C h_mo.1 1 rfl (by omega) (by omega) (by omega) dX10_asks_146 147 rfl ?_
                  show V p l e (rmL 2 0 0) s m args below meth cd Q 6 H22 lo22 0 0 147 [(5, .int (zI (co 11 w + (-2)))), (4, .int (zI (swC co k w))), (0, .ref b), (1, .int (zI k)), (2, .int (zI w)), (3, .int (zI 0))] [.int (zI ((updZ (updZ (mo 1) (12 + 30 * k + (6 + 4 * swC co k w + 3)) (co 10 (k * 8 + w) + 1)) (4 + w) (max (co 11 w - 2) 0)) 3)), .int (zI 3), .ref (b + 1)]
                  refine V_S (st' := [.int (zI (mo 1 3)), .int (zI 3), .ref (b + 1)]) (by rw [updZ_ne _ _ (by omega), updZ_ne _ _ (by omega)]) ?_
                  refine v_iconst X dX10_asks_147 148 rfl ?_
                  refine v_iadd X dX10_asks_148 149 rfl ?_
                  refine v_iast X hM h_mo 1 rfl (by omega) (by omega) (by omega) (Or.inl (fsH (by omega) (by omega))) dX10_asks_149 150 rfl (ws' := modelW E b (updC (updC mo 0 (updZ (mo 0) 4 (max (co 11 w - 2) 0))) 1 (updZ (updZ (updZ ((mo 1)) (12 + 30 * k + (6 + 4 * swC co k w + 3)) (co 10 (k * 8 + w) + 1)) (4 + w) (max (co 11 w - 2) 0)) 3 (mo 1 3 + 1)))) rfl (fun H23 lo23 hzz hM hF h_mo => ?_)
                  clear hzz
                  refine v_iconst X dX10_asks_150 151 rfl ?_
                  subst hQ; exact m_iret X hr hlk hM dX10_asks_151 rfl ⟨(updZ (updZ (updZ ((mo 1)) (12 + 30 * k + (6 + 4 * swC co k w + 3)) (co 10 (k * 8 + w) + 1)) (4 + w) (max (co 11 w - 2) 0)) 3 (mo 1 3 + 1)), rfl, (by show RelC (askC0 co k w) _; exact rel_askC0 hO hR hI (by omega) (by omega) (by omega) (by omega) (by omega)), (by intro i hi; simp only [updZ, clA, if_true, if_false]; omega), (PR.to h_mo (by rw [show opV co 3 k w 0 0 = max (co 11 w - 2) 0 by rfl]))⟩
              · skip
                refine v_bipush X dX10_asks_109 111 rfl rfl ?_
                refine v_goto X dX10_asks_111 125 (by decide) ?_
                refine V_S (st' := [.int (zI (max (co 11 w - 2) 0)), .ref b]) (by exact congrArg (fun q : Int => [Value.int (zI q), Value.ref b]) (by omega)) ?_
                refine v_putf X hM h_mo ftX10 0 rfl rfl 4 (by decide) kf_X10_40 (fun _ h => h) rfl rfl rfl (Nat.le_of_ble_eq_true rfl) (Or.inl (fsH (by omega) (by omega))) dX10_asks_125 128 rfl (ws' := modelW E b (updC (updC mo 0 (updZ (mo 0) 4 (max (co 11 w - 2) 0))) 1 (updZ ((mo 1)) (12 + 30 * k + (6 + 4 * swC co k w + 3)) (co 10 (k * 8 + w) + 1)))) rfl (fun H24 lo24 hzz hM hF h_mo => ?_)
                clear hzz
                refine v_aload_n X dX10_asks_128 129 rfl 2 rfl ?_
                refine v_getf X hM.C h_mo.1 inX10 0 rfl rfl 1 (by decide) kf_X10_9 (fun _ h => h) rfl dX10_asks_129 132 rfl ?_
                refine v_iconst X dX10_asks_132 133 rfl ?_
                refine v_iload_n X dX10_asks_133 134 rfl 4 rfl ?_
                refine v_iadd X dX10_asks_134 135 rfl ?_
                refine v_aload_n X dX10_asks_135 136 rfl 2 rfl ?_
                refine v_getf X hM.C h_mo.1 inX10 0 rfl rfl 4 (by decide) kf_X10_40 (fun _ h => h) rfl dX10_asks_136 139 rfl ?_
                show V p l e (rmL 2 0 0) s m args below meth cd Q 6 H24 lo24 0 0 139 [(5, .int (zI (co 11 w + (-2)))), (4, .int (zI (swC co k w))), (0, .ref b), (1, .int (zI k)), (2, .int (zI w)), (3, .int (zI 0))] [.int (zI (max (co 11 w - 2) 0)), .int (zI (4 + w)), .ref (b + 1)]
                refine v_iast X hM h_mo 1 rfl (by omega) (by omega) (by omega) (Or.inl (fsH (by omega) (by omega))) dX10_asks_139 140 rfl (ws' := modelW E b (updC (updC mo 0 (updZ (mo 0) 4 (max (co 11 w - 2) 0))) 1 (updZ (updZ ((mo 1)) (12 + 30 * k + (6 + 4 * swC co k w + 3)) (co 10 (k * 8 + w) + 1)) (4 + w) (max (co 11 w - 2) 0)))) rfl (fun H25 lo25 hzz hM hF h_mo => ?_)
                clear hzz
                refine v_aload_n X dX10_asks_140 141 rfl 2 rfl ?_
                refine v_getf X hM.C h_mo.1 inX10 0 rfl rfl 1 (by decide) kf_X10_9 (fun _ h => h) rfl dX10_asks_141 144 rfl ?_
                refine v_iconst X dX10_asks_144 145 rfl ?_
                refine v_dup2 X dX10_asks_145 146 rfl rfl rfl ?_
                refine v_iald X hM.C h_mo.1 1 rfl (by omega) (by omega) (by omega) dX10_asks_146 147 rfl ?_
                show V p l e (rmL 2 0 0) s m args below meth cd Q 6 H25 lo25 0 0 147 [(5, .int (zI (co 11 w + (-2)))), (4, .int (zI (swC co k w))), (0, .ref b), (1, .int (zI k)), (2, .int (zI w)), (3, .int (zI 0))] [.int (zI ((updZ (updZ (mo 1) (12 + 30 * k + (6 + 4 * swC co k w + 3)) (co 10 (k * 8 + w) + 1)) (4 + w) (max (co 11 w - 2) 0)) 3)), .int (zI 3), .ref (b + 1)]
                refine V_S (st' := [.int (zI (mo 1 3)), .int (zI 3), .ref (b + 1)]) (by rw [updZ_ne _ _ (by omega), updZ_ne _ _ (by omega)]) ?_
                refine v_iconst X dX10_asks_147 148 rfl ?_
                refine v_iadd X dX10_asks_148 149 rfl ?_
                refine v_iast X hM h_mo 1 rfl (by omega) (by omega) (by omega) (Or.inl (fsH (by omega) (by omega))) dX10_asks_149 150 rfl (ws' := modelW E b (updC (updC mo 0 (updZ (mo 0) 4 (max (co 11 w - 2) 0))) 1 (updZ (updZ (updZ ((mo 1)) (12 + 30 * k + (6 + 4 * swC co k w + 3)) (co 10 (k * 8 + w) + 1)) (4 + w) (max (co 11 w - 2) 0)) 3 (mo 1 3 + 1)))) rfl (fun H26 lo26 hzz hM hF h_mo => ?_)
                clear hzz
                refine v_iconst X dX10_asks_150 151 rfl ?_
                subst hQ; exact m_iret X hr hlk hM dX10_asks_151 rfl ⟨(updZ (updZ (updZ ((mo 1)) (12 + 30 * k + (6 + 4 * swC co k w + 3)) (co 10 (k * 8 + w) + 1)) (4 + w) (max (co 11 w - 2) 0)) 3 (mo 1 3 + 1)), rfl, (by show RelC (askC0 co k w) _; exact rel_askC0 hO hR hI (by omega) (by omega) (by omega) (by omega) (by omega)), (by intro i hi; simp only [updZ, clA, if_true, if_false]; omega), (PR.to h_mo (by rw [show opV co 3 k w 0 0 = max (co 11 w - 2) 0 by rfl]))⟩
            · skip
              exfalso; omega
          · skip
            exfalso; omega
      · skip
        exfalso; omega
    · skip
      exfalso; omega
theorem opC_judgeC11 {co : Nat → Int → Int} {k y f z : Int} (hg : 0 < mgC co k) (hla : 2 ≤ co 5 k) : opC co 4 k y f z = judgeC11 co k := by
  show (if 0 < mgC co k then (if 2 ≤ co 5 k then judgeC11 co k else judgeC10 co k) else (if 2 ≤ co 5 k then judgeC01 co k else judgeC00 co k)) = _
  rw [if_pos (by omega), if_pos (by omega)]
set_option maxHeartbeats 4000000 in
set_option maxRecDepth 20000 in
theorem c_X10_decides_ok_11 (l : Launch) (E : Nat → Nat → Nat) (b : Nat) (mo : Nat → Int → Int) (co : Nat → Int → Int) (k : Int) (hO : OkC co) (hR : RelC co (mo 1)) (hI : TsI co) (gk : Rg k) (hf : flC co 4 k 0 0 = 0) (hg : 0 < mgC co k) (hla : 2 ≤ co 5 k) : Mu l yX10_decides cX10_decides 2 (some .int) 4 0 0 E [(b, 5)] [.ref b, .int (zI k)] (fun H => PR E b (modelW E b mo) H) (fun rv H => ∃ g1 : Int → Int, rv = some (.int (zI 0)) ∧ RelC (opC co 4 k 0 0 0) g1 ∧ (∀ i : Int, 492 ≤ i → g1 i = mo 1 i) ∧ PR E b (modelW E b (updC (updC mo 0 (updZ (mo 0) 4 (opV co 4 k 0 0 0))) 1 g1)) H) := by
  refine Mu.start (own := RX10) rfl (by decide +kernel) (Nat.le_of_ble_eq_true rfl) ?_
  intro p e s m below meth cd args Q hQ X hr hlk hnm hM hPr
  have h_mo := hPr
  have hb0 := hO.b0
  have hbw := hO.bw
  have hr0 := hR.s0
  have hr1 := hR.s1
  have hq := flC_4 hf
  have hb5 := hO.b5 k
  refine v_aload_n X dX10_decides_0 1 rfl 0 rfl ?_
  refine v_iload_n X dX10_decides_1 2 rfl 1 rfl ?_
  refine v_rdV X hM.C h_mo.1 (c_X10_isCase l E b mo co k hO hR gk) kvX10_isCase kiX10_isCase kl_X10_92 rfl rfl (As := [.int (zI k)]) rfl rfl rfl dX10_decides_2 5 rfl ?_
  show V p l e (rmL 4 0 0) s m args below meth cd Q 2 s.heap [] 0 0 5 [(0, .ref b), (1, .int (zI k))] [.int (zI (bz (0 ≤ k ∧ k < co 0 0)))]
  refine v_bif_ne X dX10_decides_5 8 10 rfl (by decide) (fun c_1 => ?_) (fun c_1 => ?_)
  · skip
    refine v_aload_n X dX10_decides_10 11 rfl 0 rfl ?_
    refine v_iload_n X dX10_decides_11 12 rfl 1 rfl ?_
    refine v_iconst X dX10_decides_12 13 rfl ?_
    have hb_2 := hO.b0
    refine v_rdV X hM.C h_mo.1 (c_X10_c_2 l E b mo co k hO hR (by omega) (by omega)) kvX10_c kiX10_c kl_X10_47 rfl rfl (As := [.int (zI k), .int (zI 2)]) rfl rfl rfl dX10_decides_13 16 rfl ?_
    show V p l e (rmL 4 0 0) s m args below meth cd Q 2 s.heap [] 0 0 16 [(0, .ref b), (1, .int (zI k))] [.int (zI (co 3 k))]
    have hb_3 := hO.b3 k
    refine v_if_ne X (by omega) dX10_decides_16 19 28 rfl (by decide) (fun c_4 => ?_) (fun c_4 => ?_)
    · skip
      exfalso; omega
    · skip
      refine v_aload_n X dX10_decides_19 20 rfl 0 rfl ?_
      refine v_iload_n X dX10_decides_20 21 rfl 1 rfl ?_
      refine v_iconst X dX10_decides_21 22 rfl ?_
      refine v_rdV X hM.C h_mo.1 (c_X10_c_5 l E b mo co k hO hR (by omega) (by omega)) kvX10_c kiX10_c kl_X10_47 rfl rfl (As := [.int (zI k), .int (zI 5)]) rfl rfl rfl dX10_decides_22 25 rfl ?_
      show V p l e (rmL 4 0 0) s m args below meth cd Q 2 s.heap [] 0 0 25 [(0, .ref b), (1, .int (zI k))] [.int (zI (co 6 k))]
      have hb_5 := hO.b6 k
      refine v_if_ne X (by omega) dX10_decides_25 28 30 rfl (by decide) (fun c_6 => ?_) (fun c_6 => ?_)
      · skip
        refine v_aload_n X dX10_decides_30 31 rfl 0 rfl ?_
        refine v_aload_n X dX10_decides_31 32 rfl 0 rfl ?_
        refine v_iload_n X dX10_decides_32 33 rfl 1 rfl ?_
        refine v_rdV X hM.C h_mo.1 (c_X10_marginOf l E b mo co k hO hR hI (by omega) (by omega)) kvX10_marginOf kiX10_marginOf kl_X10_109 rfl rfl (As := [.int (zI k)]) rfl rfl rfl dX10_decides_33 36 rfl ?_
        show V p l e (rmL 4 0 0) s m args below meth cd Q 2 s.heap [] 0 0 36 [(0, .ref b), (1, .int (zI k))] [.int (zI (mgC co k)), .ref b]
        have hf_7 := mgC_b hO k
        refine v_if_le X (by omega) dX10_decides_36 39 43 rfl (by decide) (fun c_8 => ?_) (fun c_8 => ?_)
        · skip
          exfalso; omega
        · skip
          refine v_iconst X dX10_decides_39 40 rfl ?_
          refine v_goto X dX10_decides_40 44 (by decide) ?_
          refine v_putf X hM h_mo ftX10 0 rfl rfl 4 (by decide) kf_X10_40 (fun _ h => h) rfl rfl rfl (Nat.le_of_ble_eq_true rfl) (Or.inl (fsH (by omega) (by omega))) dX10_decides_44 47 rfl (ws' := modelW E b (updC mo 0 (updZ (mo 0) 4 1))) rfl (fun H9 lo9 hzz hM hF h_mo => ?_)
          clear hzz
          refine v_aload_n X dX10_decides_47 48 rfl 0 rfl ?_
          refine v_iload_n X dX10_decides_48 49 rfl 1 rfl ?_
          refine v_iconst X dX10_decides_49 50 rfl ?_
          refine v_aload_n X dX10_decides_50 51 rfl 0 rfl ?_
          refine v_getf X hM.C h_mo.1 inX10 0 rfl rfl 4 (by decide) kf_X10_40 (fun _ h => h) rfl dX10_decides_51 54 rfl ?_
          show V p l e (rmL 4 0 0) s m args below meth cd Q 2 H9 lo9 0 0 54 [(0, .ref b), (1, .int (zI k))] [.int (zI 1), .int (zI 3), .int (zI k), .ref b]
          refine v_muV X hM (h_mo.1) (c_X10_set l E b (updC mo 0 (updZ (mo 0) 4 1)) k 3 1 (by omega) (by omega) (by omega) (by omega)) kvX10_set kiX10_set kl_X10_75 (q0 := 0) rfl rfl (As := [.int (zI k), .int (zI 3), .int (zI 1)]) rfl rfl rfl dX10_decides_54 57 rfl (k' := 0) (n' := 0) rfl rfl (fsI (fun q q1 q2 => (Or.inl (fsH (by omega) (by omega))))) h_mo (fun rv H10 lo10 hM hF hpo => ?_)
          obtain ⟨rfl, hw_0⟩ := hpo
          have h_mo : PR E b (modelW E b (updC (updC mo 0 (updZ (mo 0) 4 1)) 1 (updZ ((mo 1)) (12 + 30 * k + 3) 1))) H10 := hw_0
          show V p l e (rmL 4 0 0) s m args below meth cd Q 2 H10 lo10 0 0 57 [(0, .ref b), (1, .int (zI k))] []
          refine v_aload_n X dX10_decides_57 58 rfl 0 rfl ?_
          refine v_iload_n X dX10_decides_58 59 rfl 1 rfl ?_
          refine v_iconst X dX10_decides_59 60 rfl ?_
          refine v_aload_n X dX10_decides_60 61 rfl 0 rfl ?_
          refine v_iload_n X dX10_decides_61 62 rfl 1 rfl ?_
          refine v_iconst X dX10_decides_62 63 rfl ?_
          refine v_rdV X hM.C h_mo.1 (c_X10_craw l E b (updC (updC mo 0 (updZ (mo 0) 4 1)) 1 (updZ ((mo 1)) (12 + 30 * k + 3) 1)) k 4 (by omega) (by omega) (by omega) (by omega)) kvX10_c kiX10_c kl_X10_47 rfl rfl (As := [.int (zI k), .int (zI 4)]) rfl rfl rfl dX10_decides_63 66 rfl ?_
          show V p l e (rmL 4 0 0) s m args below meth cd Q 2 H10 lo10 0 0 66 [(0, .ref b), (1, .int (zI k))] [.int (zI ((updZ (mo 1) (12 + 30 * k + 3) 1) (12 + 30 * k + 4))), .int (zI 2), .int (zI k), .ref b]
          refine V_S (st' := [.int (zI (co 5 k)), .int (zI 2), .int (zI k), .ref b]) (by rw [updZ_ne _ _ (by omega), (hR.c (k := k) (by omega) (by omega)).2.2.2.2.1]) ?_
          refine v_iconst X dX10_decides_66 67 rfl ?_
          have hb_12 := hO.b5 k
          refine v_icmp_ne X (by omega) (by omega) dX10_decides_67 70 74 rfl (by decide) (fun c_11 => ?_) (fun c_11 => ?_)
          · skip
            exfalso; omega
          · skip
            refine v_iconst X dX10_decides_70 71 rfl ?_
            refine v_goto X dX10_decides_71 75 (by decide) ?_
            refine v_muV X hM (h_mo.1) (c_X10_set l E b (updC (updC mo 0 (updZ (mo 0) 4 1)) 1 (updZ ((mo 1)) (12 + 30 * k + 3) 1)) k 2 2 (by omega) (by omega) (by omega) (by omega)) kvX10_set kiX10_set kl_X10_75 (q0 := 0) rfl rfl (As := [.int (zI k), .int (zI 2), .int (zI 2)]) rfl rfl rfl dX10_decides_75 78 rfl (k' := 0) (n' := 0) rfl rfl (fsI (fun q q1 q2 => (Or.inl (fsH (by omega) (by omega))))) h_mo (fun rv H13 lo13 hM hF hpo => ?_)
            obtain ⟨rfl, hw_0⟩ := hpo
            have h_mo : PR E b (modelW E b (updC (updC mo 0 (updZ (mo 0) 4 1)) 1 (updZ ((updZ ((mo 1)) (12 + 30 * k + 3) 1)) (12 + 30 * k + 2) 2))) H13 := hw_0
            show V p l e (rmL 4 0 0) s m args below meth cd Q 2 H13 lo13 0 0 78 [(0, .ref b), (1, .int (zI k))] []
            refine v_aload_n X dX10_decides_78 79 rfl 0 rfl ?_
            refine v_getf X hM.C h_mo.1 inX10 0 rfl rfl 1 (by decide) kf_X10_9 (fun _ h => h) rfl dX10_decides_79 82 rfl ?_
            refine v_iconst X dX10_decides_82 83 rfl ?_
            refine v_dup2 X dX10_decides_83 84 rfl rfl rfl ?_
            refine v_iald X hM.C h_mo.1 1 rfl (by omega) (by omega) (by omega) dX10_decides_84 85 rfl ?_
            show V p l e (rmL 4 0 0) s m args below meth cd Q 2 H13 lo13 0 0 85 [(0, .ref b), (1, .int (zI k))] [.int (zI ((updZ (updZ (mo 1) (12 + 30 * k + 3) 1) (12 + 30 * k + 2) 2) 2)), .int (zI 2), .ref (b + 1)]
            refine V_S (st' := [.int (zI (mo 1 2)), .int (zI 2), .ref (b + 1)]) (by rw [updZ_ne _ _ (by omega), updZ_ne _ _ (by omega)]) ?_
            refine v_iconst X dX10_decides_85 86 rfl ?_
            refine v_iadd X dX10_decides_86 87 rfl ?_
            refine v_iast X hM h_mo 1 rfl (by omega) (by omega) (by omega) (Or.inl (fsH (by omega) (by omega))) dX10_decides_87 88 rfl (ws' := modelW E b (updC (updC mo 0 (updZ (mo 0) 4 1)) 1 (updZ (updZ ((updZ ((mo 1)) (12 + 30 * k + 3) 1)) (12 + 30 * k + 2) 2) 2 (mo 1 2 + 1)))) rfl (fun H14 lo14 hzz hM hF h_mo => ?_)
            clear hzz
            refine v_iconst X dX10_decides_88 89 rfl ?_
            subst hQ; exact m_iret X hr hlk hM dX10_decides_89 rfl ⟨(updZ (updZ ((updZ ((mo 1)) (12 + 30 * k + 3) 1)) (12 + 30 * k + 2) 2) 2 (mo 1 2 + 1)), rfl, (by rw [opC_judgeC11 hg hla]; exact rel_judgeC11 hO hR (by omega) (by omega)), (by intro i hi; simp only [updZ, clA, if_true, if_false]; omega), (PR.to h_mo (by rw [show opV co 4 k 0 0 0 = 1 by (show (if 0 < mgC co k then (1 : Int) else 0) = 1; rw [if_pos (by omega)])]))⟩
      · skip
        exfalso; omega
  · skip
    exfalso; omega
theorem opC_judgeC10 {co : Nat → Int → Int} {k y f z : Int} (hg : 0 < mgC co k) (hla : co 5 k < 2) : opC co 4 k y f z = judgeC10 co k := by
  show (if 0 < mgC co k then (if 2 ≤ co 5 k then judgeC11 co k else judgeC10 co k) else (if 2 ≤ co 5 k then judgeC01 co k else judgeC00 co k)) = _
  rw [if_pos (by omega), if_neg (by omega)]
set_option maxHeartbeats 4000000 in
set_option maxRecDepth 20000 in
theorem c_X10_decides_ok_10 (l : Launch) (E : Nat → Nat → Nat) (b : Nat) (mo : Nat → Int → Int) (co : Nat → Int → Int) (k : Int) (hO : OkC co) (hR : RelC co (mo 1)) (hI : TsI co) (gk : Rg k) (hf : flC co 4 k 0 0 = 0) (hg : 0 < mgC co k) (hla : co 5 k < 2) : Mu l yX10_decides cX10_decides 2 (some .int) 4 0 0 E [(b, 5)] [.ref b, .int (zI k)] (fun H => PR E b (modelW E b mo) H) (fun rv H => ∃ g1 : Int → Int, rv = some (.int (zI 0)) ∧ RelC (opC co 4 k 0 0 0) g1 ∧ (∀ i : Int, 492 ≤ i → g1 i = mo 1 i) ∧ PR E b (modelW E b (updC (updC mo 0 (updZ (mo 0) 4 (opV co 4 k 0 0 0))) 1 g1)) H) := by
  refine Mu.start (own := RX10) rfl (by decide +kernel) (Nat.le_of_ble_eq_true rfl) ?_
  intro p e s m below meth cd args Q hQ X hr hlk hnm hM hPr
  have h_mo := hPr
  have hb0 := hO.b0
  have hbw := hO.bw
  have hr0 := hR.s0
  have hr1 := hR.s1
  have hq := flC_4 hf
  have hb5 := hO.b5 k
  refine v_aload_n X dX10_decides_0 1 rfl 0 rfl ?_
  refine v_iload_n X dX10_decides_1 2 rfl 1 rfl ?_
  refine v_rdV X hM.C h_mo.1 (c_X10_isCase l E b mo co k hO hR gk) kvX10_isCase kiX10_isCase kl_X10_92 rfl rfl (As := [.int (zI k)]) rfl rfl rfl dX10_decides_2 5 rfl ?_
  show V p l e (rmL 4 0 0) s m args below meth cd Q 2 s.heap [] 0 0 5 [(0, .ref b), (1, .int (zI k))] [.int (zI (bz (0 ≤ k ∧ k < co 0 0)))]
  refine v_bif_ne X dX10_decides_5 8 10 rfl (by decide) (fun c_1 => ?_) (fun c_1 => ?_)
  · skip
    refine v_aload_n X dX10_decides_10 11 rfl 0 rfl ?_
    refine v_iload_n X dX10_decides_11 12 rfl 1 rfl ?_
    refine v_iconst X dX10_decides_12 13 rfl ?_
    have hb_2 := hO.b0
    refine v_rdV X hM.C h_mo.1 (c_X10_c_2 l E b mo co k hO hR (by omega) (by omega)) kvX10_c kiX10_c kl_X10_47 rfl rfl (As := [.int (zI k), .int (zI 2)]) rfl rfl rfl dX10_decides_13 16 rfl ?_
    show V p l e (rmL 4 0 0) s m args below meth cd Q 2 s.heap [] 0 0 16 [(0, .ref b), (1, .int (zI k))] [.int (zI (co 3 k))]
    have hb_3 := hO.b3 k
    refine v_if_ne X (by omega) dX10_decides_16 19 28 rfl (by decide) (fun c_4 => ?_) (fun c_4 => ?_)
    · skip
      exfalso; omega
    · skip
      refine v_aload_n X dX10_decides_19 20 rfl 0 rfl ?_
      refine v_iload_n X dX10_decides_20 21 rfl 1 rfl ?_
      refine v_iconst X dX10_decides_21 22 rfl ?_
      refine v_rdV X hM.C h_mo.1 (c_X10_c_5 l E b mo co k hO hR (by omega) (by omega)) kvX10_c kiX10_c kl_X10_47 rfl rfl (As := [.int (zI k), .int (zI 5)]) rfl rfl rfl dX10_decides_22 25 rfl ?_
      show V p l e (rmL 4 0 0) s m args below meth cd Q 2 s.heap [] 0 0 25 [(0, .ref b), (1, .int (zI k))] [.int (zI (co 6 k))]
      have hb_5 := hO.b6 k
      refine v_if_ne X (by omega) dX10_decides_25 28 30 rfl (by decide) (fun c_6 => ?_) (fun c_6 => ?_)
      · skip
        refine v_aload_n X dX10_decides_30 31 rfl 0 rfl ?_
        refine v_aload_n X dX10_decides_31 32 rfl 0 rfl ?_
        refine v_iload_n X dX10_decides_32 33 rfl 1 rfl ?_
        refine v_rdV X hM.C h_mo.1 (c_X10_marginOf l E b mo co k hO hR hI (by omega) (by omega)) kvX10_marginOf kiX10_marginOf kl_X10_109 rfl rfl (As := [.int (zI k)]) rfl rfl rfl dX10_decides_33 36 rfl ?_
        show V p l e (rmL 4 0 0) s m args below meth cd Q 2 s.heap [] 0 0 36 [(0, .ref b), (1, .int (zI k))] [.int (zI (mgC co k)), .ref b]
        have hf_7 := mgC_b hO k
        refine v_if_le X (by omega) dX10_decides_36 39 43 rfl (by decide) (fun c_8 => ?_) (fun c_8 => ?_)
        · skip
          exfalso; omega
        · skip
          refine v_iconst X dX10_decides_39 40 rfl ?_
          refine v_goto X dX10_decides_40 44 (by decide) ?_
          refine v_putf X hM h_mo ftX10 0 rfl rfl 4 (by decide) kf_X10_40 (fun _ h => h) rfl rfl rfl (Nat.le_of_ble_eq_true rfl) (Or.inl (fsH (by omega) (by omega))) dX10_decides_44 47 rfl (ws' := modelW E b (updC mo 0 (updZ (mo 0) 4 1))) rfl (fun H9 lo9 hzz hM hF h_mo => ?_)
          clear hzz
          refine v_aload_n X dX10_decides_47 48 rfl 0 rfl ?_
          refine v_iload_n X dX10_decides_48 49 rfl 1 rfl ?_
          refine v_iconst X dX10_decides_49 50 rfl ?_
          refine v_aload_n X dX10_decides_50 51 rfl 0 rfl ?_
          refine v_getf X hM.C h_mo.1 inX10 0 rfl rfl 4 (by decide) kf_X10_40 (fun _ h => h) rfl dX10_decides_51 54 rfl ?_
          show V p l e (rmL 4 0 0) s m args below meth cd Q 2 H9 lo9 0 0 54 [(0, .ref b), (1, .int (zI k))] [.int (zI 1), .int (zI 3), .int (zI k), .ref b]
          refine v_muV X hM (h_mo.1) (c_X10_set l E b (updC mo 0 (updZ (mo 0) 4 1)) k 3 1 (by omega) (by omega) (by omega) (by omega)) kvX10_set kiX10_set kl_X10_75 (q0 := 0) rfl rfl (As := [.int (zI k), .int (zI 3), .int (zI 1)]) rfl rfl rfl dX10_decides_54 57 rfl (k' := 0) (n' := 0) rfl rfl (fsI (fun q q1 q2 => (Or.inl (fsH (by omega) (by omega))))) h_mo (fun rv H10 lo10 hM hF hpo => ?_)
          obtain ⟨rfl, hw_0⟩ := hpo
          have h_mo : PR E b (modelW E b (updC (updC mo 0 (updZ (mo 0) 4 1)) 1 (updZ ((mo 1)) (12 + 30 * k + 3) 1))) H10 := hw_0
          show V p l e (rmL 4 0 0) s m args below meth cd Q 2 H10 lo10 0 0 57 [(0, .ref b), (1, .int (zI k))] []
          refine v_aload_n X dX10_decides_57 58 rfl 0 rfl ?_
          refine v_iload_n X dX10_decides_58 59 rfl 1 rfl ?_
          refine v_iconst X dX10_decides_59 60 rfl ?_
          refine v_aload_n X dX10_decides_60 61 rfl 0 rfl ?_
          refine v_iload_n X dX10_decides_61 62 rfl 1 rfl ?_
          refine v_iconst X dX10_decides_62 63 rfl ?_
          refine v_rdV X hM.C h_mo.1 (c_X10_craw l E b (updC (updC mo 0 (updZ (mo 0) 4 1)) 1 (updZ ((mo 1)) (12 + 30 * k + 3) 1)) k 4 (by omega) (by omega) (by omega) (by omega)) kvX10_c kiX10_c kl_X10_47 rfl rfl (As := [.int (zI k), .int (zI 4)]) rfl rfl rfl dX10_decides_63 66 rfl ?_
          show V p l e (rmL 4 0 0) s m args below meth cd Q 2 H10 lo10 0 0 66 [(0, .ref b), (1, .int (zI k))] [.int (zI ((updZ (mo 1) (12 + 30 * k + 3) 1) (12 + 30 * k + 4))), .int (zI 2), .int (zI k), .ref b]
          refine V_S (st' := [.int (zI (co 5 k)), .int (zI 2), .int (zI k), .ref b]) (by rw [updZ_ne _ _ (by omega), (hR.c (k := k) (by omega) (by omega)).2.2.2.2.1]) ?_
          refine v_iconst X dX10_decides_66 67 rfl ?_
          have hb_12 := hO.b5 k
          refine v_icmp_ne X (by omega) (by omega) dX10_decides_67 70 74 rfl (by decide) (fun c_11 => ?_) (fun c_11 => ?_)
          · skip
            refine v_iconst X dX10_decides_74 75 rfl ?_
            refine v_muV X hM (h_mo.1) (c_X10_set l E b (updC (updC mo 0 (updZ (mo 0) 4 1)) 1 (updZ ((mo 1)) (12 + 30 * k + 3) 1)) k 2 1 (by omega) (by omega) (by omega) (by omega)) kvX10_set kiX10_set kl_X10_75 (q0 := 0) rfl rfl (As := [.int (zI k), .int (zI 2), .int (zI 1)]) rfl rfl rfl dX10_decides_75 78 rfl (k' := 0) (n' := 0) rfl rfl (fsI (fun q q1 q2 => (Or.inl (fsH (by omega) (by omega))))) h_mo (fun rv H13 lo13 hM hF hpo => ?_)
            obtain ⟨rfl, hw_0⟩ := hpo
            have h_mo : PR E b (modelW E b (updC (updC mo 0 (updZ (mo 0) 4 1)) 1 (updZ ((updZ ((mo 1)) (12 + 30 * k + 3) 1)) (12 + 30 * k + 2) 1))) H13 := hw_0
            show V p l e (rmL 4 0 0) s m args below meth cd Q 2 H13 lo13 0 0 78 [(0, .ref b), (1, .int (zI k))] []
            refine v_aload_n X dX10_decides_78 79 rfl 0 rfl ?_
            refine v_getf X hM.C h_mo.1 inX10 0 rfl rfl 1 (by decide) kf_X10_9 (fun _ h => h) rfl dX10_decides_79 82 rfl ?_
            refine v_iconst X dX10_decides_82 83 rfl ?_
            refine v_dup2 X dX10_decides_83 84 rfl rfl rfl ?_
            refine v_iald X hM.C h_mo.1 1 rfl (by omega) (by omega) (by omega) dX10_decides_84 85 rfl ?_
            show V p l e (rmL 4 0 0) s m args below meth cd Q 2 H13 lo13 0 0 85 [(0, .ref b), (1, .int (zI k))] [.int (zI ((updZ (updZ (mo 1) (12 + 30 * k + 3) 1) (12 + 30 * k + 2) 1) 2)), .int (zI 2), .ref (b + 1)]
            refine V_S (st' := [.int (zI (mo 1 2)), .int (zI 2), .ref (b + 1)]) (by rw [updZ_ne _ _ (by omega), updZ_ne _ _ (by omega)]) ?_
            refine v_iconst X dX10_decides_85 86 rfl ?_
            refine v_iadd X dX10_decides_86 87 rfl ?_
            refine v_iast X hM h_mo 1 rfl (by omega) (by omega) (by omega) (Or.inl (fsH (by omega) (by omega))) dX10_decides_87 88 rfl (ws' := modelW E b (updC (updC mo 0 (updZ (mo 0) 4 1)) 1 (updZ (updZ ((updZ ((mo 1)) (12 + 30 * k + 3) 1)) (12 + 30 * k + 2) 1) 2 (mo 1 2 + 1)))) rfl (fun H14 lo14 hzz hM hF h_mo => ?_)
            clear hzz
            refine v_iconst X dX10_decides_88 89 rfl ?_
            subst hQ; exact m_iret X hr hlk hM dX10_decides_89 rfl ⟨(updZ (updZ ((updZ ((mo 1)) (12 + 30 * k + 3) 1)) (12 + 30 * k + 2) 1) 2 (mo 1 2 + 1)), rfl, (by rw [opC_judgeC10 hg hla]; exact rel_judgeC10 hO hR (by omega) (by omega)), (by intro i hi; simp only [updZ, clA, if_true, if_false]; omega), (PR.to h_mo (by rw [show opV co 4 k 0 0 0 = 1 by (show (if 0 < mgC co k then (1 : Int) else 0) = 1; rw [if_pos (by omega)])]))⟩
          · skip
            exfalso; omega
      · skip
        exfalso; omega
  · skip
    exfalso; omega
theorem opC_judgeC01 {co : Nat → Int → Int} {k y f z : Int} (hg : mgC co k ≤ 0) (hla : 2 ≤ co 5 k) : opC co 4 k y f z = judgeC01 co k := by
  show (if 0 < mgC co k then (if 2 ≤ co 5 k then judgeC11 co k else judgeC10 co k) else (if 2 ≤ co 5 k then judgeC01 co k else judgeC00 co k)) = _
  rw [if_neg (by omega), if_pos (by omega)]
set_option maxHeartbeats 4000000 in
set_option maxRecDepth 20000 in
theorem c_X10_decides_ok_01 (l : Launch) (E : Nat → Nat → Nat) (b : Nat) (mo : Nat → Int → Int) (co : Nat → Int → Int) (k : Int) (hO : OkC co) (hR : RelC co (mo 1)) (hI : TsI co) (gk : Rg k) (hf : flC co 4 k 0 0 = 0) (hg : mgC co k ≤ 0) (hla : 2 ≤ co 5 k) : Mu l yX10_decides cX10_decides 2 (some .int) 4 0 0 E [(b, 5)] [.ref b, .int (zI k)] (fun H => PR E b (modelW E b mo) H) (fun rv H => ∃ g1 : Int → Int, rv = some (.int (zI 0)) ∧ RelC (opC co 4 k 0 0 0) g1 ∧ (∀ i : Int, 492 ≤ i → g1 i = mo 1 i) ∧ PR E b (modelW E b (updC (updC mo 0 (updZ (mo 0) 4 (opV co 4 k 0 0 0))) 1 g1)) H) := by
  refine Mu.start (own := RX10) rfl (by decide +kernel) (Nat.le_of_ble_eq_true rfl) ?_
  intro p e s m below meth cd args Q hQ X hr hlk hnm hM hPr
  have h_mo := hPr
  have hb0 := hO.b0
  have hbw := hO.bw
  have hr0 := hR.s0
  have hr1 := hR.s1
  have hq := flC_4 hf
  have hb5 := hO.b5 k
  refine v_aload_n X dX10_decides_0 1 rfl 0 rfl ?_
  refine v_iload_n X dX10_decides_1 2 rfl 1 rfl ?_
  refine v_rdV X hM.C h_mo.1 (c_X10_isCase l E b mo co k hO hR gk) kvX10_isCase kiX10_isCase kl_X10_92 rfl rfl (As := [.int (zI k)]) rfl rfl rfl dX10_decides_2 5 rfl ?_
  show V p l e (rmL 4 0 0) s m args below meth cd Q 2 s.heap [] 0 0 5 [(0, .ref b), (1, .int (zI k))] [.int (zI (bz (0 ≤ k ∧ k < co 0 0)))]
  refine v_bif_ne X dX10_decides_5 8 10 rfl (by decide) (fun c_1 => ?_) (fun c_1 => ?_)
  · skip
    refine v_aload_n X dX10_decides_10 11 rfl 0 rfl ?_
    refine v_iload_n X dX10_decides_11 12 rfl 1 rfl ?_
    refine v_iconst X dX10_decides_12 13 rfl ?_
    have hb_2 := hO.b0
    refine v_rdV X hM.C h_mo.1 (c_X10_c_2 l E b mo co k hO hR (by omega) (by omega)) kvX10_c kiX10_c kl_X10_47 rfl rfl (As := [.int (zI k), .int (zI 2)]) rfl rfl rfl dX10_decides_13 16 rfl ?_
    show V p l e (rmL 4 0 0) s m args below meth cd Q 2 s.heap [] 0 0 16 [(0, .ref b), (1, .int (zI k))] [.int (zI (co 3 k))]
    have hb_3 := hO.b3 k
    refine v_if_ne X (by omega) dX10_decides_16 19 28 rfl (by decide) (fun c_4 => ?_) (fun c_4 => ?_)
    · skip
      exfalso; omega
    · skip
      refine v_aload_n X dX10_decides_19 20 rfl 0 rfl ?_
      refine v_iload_n X dX10_decides_20 21 rfl 1 rfl ?_
      refine v_iconst X dX10_decides_21 22 rfl ?_
      refine v_rdV X hM.C h_mo.1 (c_X10_c_5 l E b mo co k hO hR (by omega) (by omega)) kvX10_c kiX10_c kl_X10_47 rfl rfl (As := [.int (zI k), .int (zI 5)]) rfl rfl rfl dX10_decides_22 25 rfl ?_
      show V p l e (rmL 4 0 0) s m args below meth cd Q 2 s.heap [] 0 0 25 [(0, .ref b), (1, .int (zI k))] [.int (zI (co 6 k))]
      have hb_5 := hO.b6 k
      refine v_if_ne X (by omega) dX10_decides_25 28 30 rfl (by decide) (fun c_6 => ?_) (fun c_6 => ?_)
      · skip
        refine v_aload_n X dX10_decides_30 31 rfl 0 rfl ?_
        refine v_aload_n X dX10_decides_31 32 rfl 0 rfl ?_
        refine v_iload_n X dX10_decides_32 33 rfl 1 rfl ?_
        refine v_rdV X hM.C h_mo.1 (c_X10_marginOf l E b mo co k hO hR hI (by omega) (by omega)) kvX10_marginOf kiX10_marginOf kl_X10_109 rfl rfl (As := [.int (zI k)]) rfl rfl rfl dX10_decides_33 36 rfl ?_
        show V p l e (rmL 4 0 0) s m args below meth cd Q 2 s.heap [] 0 0 36 [(0, .ref b), (1, .int (zI k))] [.int (zI (mgC co k)), .ref b]
        have hf_7 := mgC_b hO k
        refine v_if_le X (by omega) dX10_decides_36 39 43 rfl (by decide) (fun c_8 => ?_) (fun c_8 => ?_)
        · skip
          refine v_iconst X dX10_decides_43 44 rfl ?_
          refine v_putf X hM h_mo ftX10 0 rfl rfl 4 (by decide) kf_X10_40 (fun _ h => h) rfl rfl rfl (Nat.le_of_ble_eq_true rfl) (Or.inl (fsH (by omega) (by omega))) dX10_decides_44 47 rfl (ws' := modelW E b (updC mo 0 (updZ (mo 0) 4 0))) rfl (fun H9 lo9 hzz hM hF h_mo => ?_)
          clear hzz
          refine v_aload_n X dX10_decides_47 48 rfl 0 rfl ?_
          refine v_iload_n X dX10_decides_48 49 rfl 1 rfl ?_
          refine v_iconst X dX10_decides_49 50 rfl ?_
          refine v_aload_n X dX10_decides_50 51 rfl 0 rfl ?_
          refine v_getf X hM.C h_mo.1 inX10 0 rfl rfl 4 (by decide) kf_X10_40 (fun _ h => h) rfl dX10_decides_51 54 rfl ?_
          show V p l e (rmL 4 0 0) s m args below meth cd Q 2 H9 lo9 0 0 54 [(0, .ref b), (1, .int (zI k))] [.int (zI 0), .int (zI 3), .int (zI k), .ref b]
          refine v_muV X hM (h_mo.1) (c_X10_set l E b (updC mo 0 (updZ (mo 0) 4 0)) k 3 0 (by omega) (by omega) (by omega) (by omega)) kvX10_set kiX10_set kl_X10_75 (q0 := 0) rfl rfl (As := [.int (zI k), .int (zI 3), .int (zI 0)]) rfl rfl rfl dX10_decides_54 57 rfl (k' := 0) (n' := 0) rfl rfl (fsI (fun q q1 q2 => (Or.inl (fsH (by omega) (by omega))))) h_mo (fun rv H10 lo10 hM hF hpo => ?_)
          obtain ⟨rfl, hw_0⟩ := hpo
          have h_mo : PR E b (modelW E b (updC (updC mo 0 (updZ (mo 0) 4 0)) 1 (updZ ((mo 1)) (12 + 30 * k + 3) 0))) H10 := hw_0
          show V p l e (rmL 4 0 0) s m args below meth cd Q 2 H10 lo10 0 0 57 [(0, .ref b), (1, .int (zI k))] []
          refine v_aload_n X dX10_decides_57 58 rfl 0 rfl ?_
          refine v_iload_n X dX10_decides_58 59 rfl 1 rfl ?_
          refine v_iconst X dX10_decides_59 60 rfl ?_
          refine v_aload_n X dX10_decides_60 61 rfl 0 rfl ?_
          refine v_iload_n X dX10_decides_61 62 rfl 1 rfl ?_
          refine v_iconst X dX10_decides_62 63 rfl ?_
          refine v_rdV X hM.C h_mo.1 (c_X10_craw l E b (updC (updC mo 0 (updZ (mo 0) 4 0)) 1 (updZ ((mo 1)) (12 + 30 * k + 3) 0)) k 4 (by omega) (by omega) (by omega) (by omega)) kvX10_c kiX10_c kl_X10_47 rfl rfl (As := [.int (zI k), .int (zI 4)]) rfl rfl rfl dX10_decides_63 66 rfl ?_
          show V p l e (rmL 4 0 0) s m args below meth cd Q 2 H10 lo10 0 0 66 [(0, .ref b), (1, .int (zI k))] [.int (zI ((updZ (mo 1) (12 + 30 * k + 3) 0) (12 + 30 * k + 4))), .int (zI 2), .int (zI k), .ref b]
          refine V_S (st' := [.int (zI (co 5 k)), .int (zI 2), .int (zI k), .ref b]) (by rw [updZ_ne _ _ (by omega), (hR.c (k := k) (by omega) (by omega)).2.2.2.2.1]) ?_
          refine v_iconst X dX10_decides_66 67 rfl ?_
          have hb_12 := hO.b5 k
          refine v_icmp_ne X (by omega) (by omega) dX10_decides_67 70 74 rfl (by decide) (fun c_11 => ?_) (fun c_11 => ?_)
          · skip
            exfalso; omega
          · skip
            refine v_iconst X dX10_decides_70 71 rfl ?_
            refine v_goto X dX10_decides_71 75 (by decide) ?_
            refine v_muV X hM (h_mo.1) (c_X10_set l E b (updC (updC mo 0 (updZ (mo 0) 4 0)) 1 (updZ ((mo 1)) (12 + 30 * k + 3) 0)) k 2 2 (by omega) (by omega) (by omega) (by omega)) kvX10_set kiX10_set kl_X10_75 (q0 := 0) rfl rfl (As := [.int (zI k), .int (zI 2), .int (zI 2)]) rfl rfl rfl dX10_decides_75 78 rfl (k' := 0) (n' := 0) rfl rfl (fsI (fun q q1 q2 => (Or.inl (fsH (by omega) (by omega))))) h_mo (fun rv H13 lo13 hM hF hpo => ?_)
            obtain ⟨rfl, hw_0⟩ := hpo
            have h_mo : PR E b (modelW E b (updC (updC mo 0 (updZ (mo 0) 4 0)) 1 (updZ ((updZ ((mo 1)) (12 + 30 * k + 3) 0)) (12 + 30 * k + 2) 2))) H13 := hw_0
            show V p l e (rmL 4 0 0) s m args below meth cd Q 2 H13 lo13 0 0 78 [(0, .ref b), (1, .int (zI k))] []
            refine v_aload_n X dX10_decides_78 79 rfl 0 rfl ?_
            refine v_getf X hM.C h_mo.1 inX10 0 rfl rfl 1 (by decide) kf_X10_9 (fun _ h => h) rfl dX10_decides_79 82 rfl ?_
            refine v_iconst X dX10_decides_82 83 rfl ?_
            refine v_dup2 X dX10_decides_83 84 rfl rfl rfl ?_
            refine v_iald X hM.C h_mo.1 1 rfl (by omega) (by omega) (by omega) dX10_decides_84 85 rfl ?_
            show V p l e (rmL 4 0 0) s m args below meth cd Q 2 H13 lo13 0 0 85 [(0, .ref b), (1, .int (zI k))] [.int (zI ((updZ (updZ (mo 1) (12 + 30 * k + 3) 0) (12 + 30 * k + 2) 2) 2)), .int (zI 2), .ref (b + 1)]
            refine V_S (st' := [.int (zI (mo 1 2)), .int (zI 2), .ref (b + 1)]) (by rw [updZ_ne _ _ (by omega), updZ_ne _ _ (by omega)]) ?_
            refine v_iconst X dX10_decides_85 86 rfl ?_
            refine v_iadd X dX10_decides_86 87 rfl ?_
            refine v_iast X hM h_mo 1 rfl (by omega) (by omega) (by omega) (Or.inl (fsH (by omega) (by omega))) dX10_decides_87 88 rfl (ws' := modelW E b (updC (updC mo 0 (updZ (mo 0) 4 0)) 1 (updZ (updZ ((updZ ((mo 1)) (12 + 30 * k + 3) 0)) (12 + 30 * k + 2) 2) 2 (mo 1 2 + 1)))) rfl (fun H14 lo14 hzz hM hF h_mo => ?_)
            clear hzz
            refine v_iconst X dX10_decides_88 89 rfl ?_
            subst hQ; exact m_iret X hr hlk hM dX10_decides_89 rfl ⟨(updZ (updZ ((updZ ((mo 1)) (12 + 30 * k + 3) 0)) (12 + 30 * k + 2) 2) 2 (mo 1 2 + 1)), rfl, (by rw [opC_judgeC01 hg hla]; exact rel_judgeC01 hO hR (by omega) (by omega)), (by intro i hi; simp only [updZ, clA, if_true, if_false]; omega), (PR.to h_mo (by rw [show opV co 4 k 0 0 0 = 0 by (show (if 0 < mgC co k then (1 : Int) else 0) = 0; rw [if_neg (by omega)])]))⟩
        · skip
          exfalso; omega
      · skip
        exfalso; omega
  · skip
    exfalso; omega
theorem opC_judgeC00 {co : Nat → Int → Int} {k y f z : Int} (hg : mgC co k ≤ 0) (hla : co 5 k < 2) : opC co 4 k y f z = judgeC00 co k := by
  show (if 0 < mgC co k then (if 2 ≤ co 5 k then judgeC11 co k else judgeC10 co k) else (if 2 ≤ co 5 k then judgeC01 co k else judgeC00 co k)) = _
  rw [if_neg (by omega), if_neg (by omega)]
set_option maxHeartbeats 4000000 in
set_option maxRecDepth 20000 in
theorem c_X10_decides_ok_00 (l : Launch) (E : Nat → Nat → Nat) (b : Nat) (mo : Nat → Int → Int) (co : Nat → Int → Int) (k : Int) (hO : OkC co) (hR : RelC co (mo 1)) (hI : TsI co) (gk : Rg k) (hf : flC co 4 k 0 0 = 0) (hg : mgC co k ≤ 0) (hla : co 5 k < 2) : Mu l yX10_decides cX10_decides 2 (some .int) 4 0 0 E [(b, 5)] [.ref b, .int (zI k)] (fun H => PR E b (modelW E b mo) H) (fun rv H => ∃ g1 : Int → Int, rv = some (.int (zI 0)) ∧ RelC (opC co 4 k 0 0 0) g1 ∧ (∀ i : Int, 492 ≤ i → g1 i = mo 1 i) ∧ PR E b (modelW E b (updC (updC mo 0 (updZ (mo 0) 4 (opV co 4 k 0 0 0))) 1 g1)) H) := by
  refine Mu.start (own := RX10) rfl (by decide +kernel) (Nat.le_of_ble_eq_true rfl) ?_
  intro p e s m below meth cd args Q hQ X hr hlk hnm hM hPr
  have h_mo := hPr
  have hb0 := hO.b0
  have hbw := hO.bw
  have hr0 := hR.s0
  have hr1 := hR.s1
  have hq := flC_4 hf
  have hb5 := hO.b5 k
  refine v_aload_n X dX10_decides_0 1 rfl 0 rfl ?_
  refine v_iload_n X dX10_decides_1 2 rfl 1 rfl ?_
  refine v_rdV X hM.C h_mo.1 (c_X10_isCase l E b mo co k hO hR gk) kvX10_isCase kiX10_isCase kl_X10_92 rfl rfl (As := [.int (zI k)]) rfl rfl rfl dX10_decides_2 5 rfl ?_
  show V p l e (rmL 4 0 0) s m args below meth cd Q 2 s.heap [] 0 0 5 [(0, .ref b), (1, .int (zI k))] [.int (zI (bz (0 ≤ k ∧ k < co 0 0)))]
  refine v_bif_ne X dX10_decides_5 8 10 rfl (by decide) (fun c_1 => ?_) (fun c_1 => ?_)
  · skip
    refine v_aload_n X dX10_decides_10 11 rfl 0 rfl ?_
    refine v_iload_n X dX10_decides_11 12 rfl 1 rfl ?_
    refine v_iconst X dX10_decides_12 13 rfl ?_
    have hb_2 := hO.b0
    refine v_rdV X hM.C h_mo.1 (c_X10_c_2 l E b mo co k hO hR (by omega) (by omega)) kvX10_c kiX10_c kl_X10_47 rfl rfl (As := [.int (zI k), .int (zI 2)]) rfl rfl rfl dX10_decides_13 16 rfl ?_
    show V p l e (rmL 4 0 0) s m args below meth cd Q 2 s.heap [] 0 0 16 [(0, .ref b), (1, .int (zI k))] [.int (zI (co 3 k))]
    have hb_3 := hO.b3 k
    refine v_if_ne X (by omega) dX10_decides_16 19 28 rfl (by decide) (fun c_4 => ?_) (fun c_4 => ?_)
    · skip
      exfalso; omega
    · skip
      refine v_aload_n X dX10_decides_19 20 rfl 0 rfl ?_
      refine v_iload_n X dX10_decides_20 21 rfl 1 rfl ?_
      refine v_iconst X dX10_decides_21 22 rfl ?_
      refine v_rdV X hM.C h_mo.1 (c_X10_c_5 l E b mo co k hO hR (by omega) (by omega)) kvX10_c kiX10_c kl_X10_47 rfl rfl (As := [.int (zI k), .int (zI 5)]) rfl rfl rfl dX10_decides_22 25 rfl ?_
      show V p l e (rmL 4 0 0) s m args below meth cd Q 2 s.heap [] 0 0 25 [(0, .ref b), (1, .int (zI k))] [.int (zI (co 6 k))]
      have hb_5 := hO.b6 k
      refine v_if_ne X (by omega) dX10_decides_25 28 30 rfl (by decide) (fun c_6 => ?_) (fun c_6 => ?_)
      · skip
        refine v_aload_n X dX10_decides_30 31 rfl 0 rfl ?_
        refine v_aload_n X dX10_decides_31 32 rfl 0 rfl ?_
        refine v_iload_n X dX10_decides_32 33 rfl 1 rfl ?_
        refine v_rdV X hM.C h_mo.1 (c_X10_marginOf l E b mo co k hO hR hI (by omega) (by omega)) kvX10_marginOf kiX10_marginOf kl_X10_109 rfl rfl (As := [.int (zI k)]) rfl rfl rfl dX10_decides_33 36 rfl ?_
        show V p l e (rmL 4 0 0) s m args below meth cd Q 2 s.heap [] 0 0 36 [(0, .ref b), (1, .int (zI k))] [.int (zI (mgC co k)), .ref b]
        have hf_7 := mgC_b hO k
        refine v_if_le X (by omega) dX10_decides_36 39 43 rfl (by decide) (fun c_8 => ?_) (fun c_8 => ?_)
        · skip
          refine v_iconst X dX10_decides_43 44 rfl ?_
          refine v_putf X hM h_mo ftX10 0 rfl rfl 4 (by decide) kf_X10_40 (fun _ h => h) rfl rfl rfl (Nat.le_of_ble_eq_true rfl) (Or.inl (fsH (by omega) (by omega))) dX10_decides_44 47 rfl (ws' := modelW E b (updC mo 0 (updZ (mo 0) 4 0))) rfl (fun H9 lo9 hzz hM hF h_mo => ?_)
          clear hzz
          refine v_aload_n X dX10_decides_47 48 rfl 0 rfl ?_
          refine v_iload_n X dX10_decides_48 49 rfl 1 rfl ?_
          refine v_iconst X dX10_decides_49 50 rfl ?_
          refine v_aload_n X dX10_decides_50 51 rfl 0 rfl ?_
          refine v_getf X hM.C h_mo.1 inX10 0 rfl rfl 4 (by decide) kf_X10_40 (fun _ h => h) rfl dX10_decides_51 54 rfl ?_
          show V p l e (rmL 4 0 0) s m args below meth cd Q 2 H9 lo9 0 0 54 [(0, .ref b), (1, .int (zI k))] [.int (zI 0), .int (zI 3), .int (zI k), .ref b]
          refine v_muV X hM (h_mo.1) (c_X10_set l E b (updC mo 0 (updZ (mo 0) 4 0)) k 3 0 (by omega) (by omega) (by omega) (by omega)) kvX10_set kiX10_set kl_X10_75 (q0 := 0) rfl rfl (As := [.int (zI k), .int (zI 3), .int (zI 0)]) rfl rfl rfl dX10_decides_54 57 rfl (k' := 0) (n' := 0) rfl rfl (fsI (fun q q1 q2 => (Or.inl (fsH (by omega) (by omega))))) h_mo (fun rv H10 lo10 hM hF hpo => ?_)
          obtain ⟨rfl, hw_0⟩ := hpo
          have h_mo : PR E b (modelW E b (updC (updC mo 0 (updZ (mo 0) 4 0)) 1 (updZ ((mo 1)) (12 + 30 * k + 3) 0))) H10 := hw_0
          show V p l e (rmL 4 0 0) s m args below meth cd Q 2 H10 lo10 0 0 57 [(0, .ref b), (1, .int (zI k))] []
          refine v_aload_n X dX10_decides_57 58 rfl 0 rfl ?_
          refine v_iload_n X dX10_decides_58 59 rfl 1 rfl ?_
          refine v_iconst X dX10_decides_59 60 rfl ?_
          refine v_aload_n X dX10_decides_60 61 rfl 0 rfl ?_
          refine v_iload_n X dX10_decides_61 62 rfl 1 rfl ?_
          refine v_iconst X dX10_decides_62 63 rfl ?_
          refine v_rdV X hM.C h_mo.1 (c_X10_craw l E b (updC (updC mo 0 (updZ (mo 0) 4 0)) 1 (updZ ((mo 1)) (12 + 30 * k + 3) 0)) k 4 (by omega) (by omega) (by omega) (by omega)) kvX10_c kiX10_c kl_X10_47 rfl rfl (As := [.int (zI k), .int (zI 4)]) rfl rfl rfl dX10_decides_63 66 rfl ?_
          show V p l e (rmL 4 0 0) s m args below meth cd Q 2 H10 lo10 0 0 66 [(0, .ref b), (1, .int (zI k))] [.int (zI ((updZ (mo 1) (12 + 30 * k + 3) 0) (12 + 30 * k + 4))), .int (zI 2), .int (zI k), .ref b]
          refine V_S (st' := [.int (zI (co 5 k)), .int (zI 2), .int (zI k), .ref b]) (by rw [updZ_ne _ _ (by omega), (hR.c (k := k) (by omega) (by omega)).2.2.2.2.1]) ?_
          refine v_iconst X dX10_decides_66 67 rfl ?_
          have hb_12 := hO.b5 k
          refine v_icmp_ne X (by omega) (by omega) dX10_decides_67 70 74 rfl (by decide) (fun c_11 => ?_) (fun c_11 => ?_)
          · skip
            refine v_iconst X dX10_decides_74 75 rfl ?_
            refine v_muV X hM (h_mo.1) (c_X10_set l E b (updC (updC mo 0 (updZ (mo 0) 4 0)) 1 (updZ ((mo 1)) (12 + 30 * k + 3) 0)) k 2 1 (by omega) (by omega) (by omega) (by omega)) kvX10_set kiX10_set kl_X10_75 (q0 := 0) rfl rfl (As := [.int (zI k), .int (zI 2), .int (zI 1)]) rfl rfl rfl dX10_decides_75 78 rfl (k' := 0) (n' := 0) rfl rfl (fsI (fun q q1 q2 => (Or.inl (fsH (by omega) (by omega))))) h_mo (fun rv H13 lo13 hM hF hpo => ?_)
            obtain ⟨rfl, hw_0⟩ := hpo
            have h_mo : PR E b (modelW E b (updC (updC mo 0 (updZ (mo 0) 4 0)) 1 (updZ ((updZ ((mo 1)) (12 + 30 * k + 3) 0)) (12 + 30 * k + 2) 1))) H13 := hw_0
            show V p l e (rmL 4 0 0) s m args below meth cd Q 2 H13 lo13 0 0 78 [(0, .ref b), (1, .int (zI k))] []
            refine v_aload_n X dX10_decides_78 79 rfl 0 rfl ?_
            refine v_getf X hM.C h_mo.1 inX10 0 rfl rfl 1 (by decide) kf_X10_9 (fun _ h => h) rfl dX10_decides_79 82 rfl ?_
            refine v_iconst X dX10_decides_82 83 rfl ?_
            refine v_dup2 X dX10_decides_83 84 rfl rfl rfl ?_
            refine v_iald X hM.C h_mo.1 1 rfl (by omega) (by omega) (by omega) dX10_decides_84 85 rfl ?_
            show V p l e (rmL 4 0 0) s m args below meth cd Q 2 H13 lo13 0 0 85 [(0, .ref b), (1, .int (zI k))] [.int (zI ((updZ (updZ (mo 1) (12 + 30 * k + 3) 0) (12 + 30 * k + 2) 1) 2)), .int (zI 2), .ref (b + 1)]
            refine V_S (st' := [.int (zI (mo 1 2)), .int (zI 2), .ref (b + 1)]) (by rw [updZ_ne _ _ (by omega), updZ_ne _ _ (by omega)]) ?_
            refine v_iconst X dX10_decides_85 86 rfl ?_
            refine v_iadd X dX10_decides_86 87 rfl ?_
            refine v_iast X hM h_mo 1 rfl (by omega) (by omega) (by omega) (Or.inl (fsH (by omega) (by omega))) dX10_decides_87 88 rfl (ws' := modelW E b (updC (updC mo 0 (updZ (mo 0) 4 0)) 1 (updZ (updZ ((updZ ((mo 1)) (12 + 30 * k + 3) 0)) (12 + 30 * k + 2) 1) 2 (mo 1 2 + 1)))) rfl (fun H14 lo14 hzz hM hF h_mo => ?_)
            clear hzz
            refine v_iconst X dX10_decides_88 89 rfl ?_
            subst hQ; exact m_iret X hr hlk hM dX10_decides_89 rfl ⟨(updZ (updZ ((updZ ((mo 1)) (12 + 30 * k + 3) 0)) (12 + 30 * k + 2) 1) 2 (mo 1 2 + 1)), rfl, (by rw [opC_judgeC00 hg hla]; exact rel_judgeC00 hO hR (by omega) (by omega)), (by intro i hi; simp only [updZ, clA, if_true, if_false]; omega), (PR.to h_mo (by rw [show opV co 4 k 0 0 0 = 0 by (show (if 0 < mgC co k then (1 : Int) else 0) = 0; rw [if_neg (by omega)])]))⟩
          · skip
            exfalso; omega
        · skip
          exfalso; omega
      · skip
        exfalso; omega
  · skip
    exfalso; omega
theorem rel_opC5 {co : Nat → Int → Int} {g : Int → Int} {k y f z : Int} (hO : OkC co) (h : RelC co g) (k0 : 0 ≤ k) (k1 : k < co 0 0) : RelC (opC co 5 k y f z) (updZ (updZ (updZ g (12 + 30 * k + 4) (co 5 k + 1)) (12 + 30 * k + 2) 0) (12 + 30 * k + 3) 0) := by
  show RelC (if ¬ co 4 k = 0 then reopenC1 co k else reopenC0 co k) _
  split
  · exact rel_reopenC1 hO h k0 k1
  · exact rel_reopenC0 hO h k0 k1
set_option maxHeartbeats 4000000 in
set_option maxRecDepth 20000 in
theorem c_X10_appeals_ok (l : Launch) (E : Nat → Nat → Nat) (b : Nat) (mo : Nat → Int → Int) (co : Nat → Int → Int) (k : Int) (hO : OkC co) (hR : RelC co (mo 1)) (hI : TsI co) (gk : Rg k) (hf : flC co 5 k 0 0 = 0) : Mu l yX10_appeals cX10_appeals 2 (some .int) 2 0 0 E [(b, 5)] [.ref b, .int (zI k)] (fun H => PR E b (modelW E b mo) H) (fun rv H => ∃ g1 : Int → Int, rv = some (.int (zI 0)) ∧ RelC (opC co 5 k 0 0 0) g1 ∧ (∀ i : Int, 492 ≤ i → g1 i = mo 1 i) ∧ PR E b (modelW E b (updC (updC mo 0 (updZ (mo 0) 4 (opV co 5 k 0 0 0))) 1 g1)) H) := by
  refine Mu.start (own := RX10) rfl (by decide +kernel) (Nat.le_of_ble_eq_true rfl) ?_
  intro p e s m below meth cd args Q hQ X hr hlk hnm hM hPr
  have h_mo := hPr
  have hb0 := hO.b0
  have hbw := hO.bw
  have hr0 := hR.s0
  have hr1 := hR.s1
  have hq := flC_5 (Or.inl rfl) hf
  refine v_aload_n X dX10_appeals_0 1 rfl 0 rfl ?_
  refine v_iload_n X dX10_appeals_1 2 rfl 1 rfl ?_
  refine v_rdV X hM.C h_mo.1 (c_X10_isCase l E b mo co k hO hR gk) kvX10_isCase kiX10_isCase kl_X10_92 rfl rfl (As := [.int (zI k)]) rfl rfl rfl dX10_appeals_2 5 rfl ?_
  show V p l e (rmL 2 0 0) s m args below meth cd Q 2 s.heap [] 0 0 5 [(0, .ref b), (1, .int (zI k))] [.int (zI (bz (0 ≤ k ∧ k < co 0 0)))]
  refine v_bif_ne X dX10_appeals_5 8 10 rfl (by decide) (fun c_1 => ?_) (fun c_1 => ?_)
  · skip
    refine v_aload_n X dX10_appeals_10 11 rfl 0 rfl ?_
    refine v_iload_n X dX10_appeals_11 12 rfl 1 rfl ?_
    refine v_iconst X dX10_appeals_12 13 rfl ?_
    have hb_2 := hO.b0
    refine v_rdV X hM.C h_mo.1 (c_X10_c_2 l E b mo co k hO hR (by omega) (by omega)) kvX10_c kiX10_c kl_X10_47 rfl rfl (As := [.int (zI k), .int (zI 2)]) rfl rfl rfl dX10_appeals_13 16 rfl ?_
    show V p l e (rmL 2 0 0) s m args below meth cd Q 2 s.heap [] 0 0 16 [(0, .ref b), (1, .int (zI k))] [.int (zI (co 3 k))]
    have hb_3 := hO.b3 k
    refine v_iconst X dX10_appeals_16 17 rfl ?_
    refine v_icmp_eq X (by omega) (by omega) dX10_appeals_17 20 22 rfl (by decide) (fun c_4 => ?_) (fun c_4 => ?_)
    · skip
      refine v_aload_n X dX10_appeals_22 23 rfl 0 rfl ?_
      refine v_aload_n X dX10_appeals_23 24 rfl 0 rfl ?_
      refine v_iload_n X dX10_appeals_24 25 rfl 1 rfl ?_
      refine v_iconst X dX10_appeals_25 26 rfl ?_
      refine v_rdV X hM.C h_mo.1 (c_X10_c_4 l E b mo co k hO hR (by omega) (by omega)) kvX10_c kiX10_c kl_X10_47 rfl rfl (As := [.int (zI k), .int (zI 4)]) rfl rfl rfl dX10_appeals_26 29 rfl ?_
      show V p l e (rmL 2 0 0) s m args below meth cd Q 2 s.heap [] 0 0 29 [(0, .ref b), (1, .int (zI k))] [.int (zI (co 5 k)), .ref b]
      have hb_5 := hO.b5 k
      refine v_iconst X dX10_appeals_29 30 rfl ?_
      refine v_iadd X dX10_appeals_30 31 rfl ?_
      refine v_putf X hM h_mo ftX10 0 rfl rfl 4 (by decide) kf_X10_40 (fun _ h => h) rfl rfl rfl (Nat.le_of_ble_eq_true rfl) (Or.inl (fsH (by omega) (by omega))) dX10_appeals_31 34 rfl (ws' := modelW E b (updC mo 0 (updZ (mo 0) 4 (co 5 k + 1)))) rfl (fun H6 lo6 hzz hM hF h_mo => ?_)
      clear hzz
      refine v_aload_n X dX10_appeals_34 35 rfl 0 rfl ?_
      refine v_iload_n X dX10_appeals_35 36 rfl 1 rfl ?_
      refine v_iconst X dX10_appeals_36 37 rfl ?_
      refine v_aload_n X dX10_appeals_37 38 rfl 0 rfl ?_
      refine v_getf X hM.C h_mo.1 inX10 0 rfl rfl 4 (by decide) kf_X10_40 (fun _ h => h) rfl dX10_appeals_38 41 rfl ?_
      show V p l e (rmL 2 0 0) s m args below meth cd Q 2 H6 lo6 0 0 41 [(0, .ref b), (1, .int (zI k))] [.int (zI (co 5 k + 1)), .int (zI 4), .int (zI k), .ref b]
      refine v_muV X hM (h_mo.1) (c_X10_set l E b (updC mo 0 (updZ (mo 0) 4 (co 5 k + 1))) k 4 (co 5 k + 1) (by omega) (by omega) (by omega) (by omega)) kvX10_set kiX10_set kl_X10_75 (q0 := 0) rfl rfl (As := [.int (zI k), .int (zI 4), .int (zI (co 5 k + 1))]) rfl rfl rfl dX10_appeals_41 44 rfl (k' := 0) (n' := 0) rfl rfl (fsI (fun q q1 q2 => (Or.inl (fsH (by omega) (by omega))))) h_mo (fun rv H7 lo7 hM hF hpo => ?_)
      obtain ⟨rfl, hw_0⟩ := hpo
      have h_mo : PR E b (modelW E b (updC (updC mo 0 (updZ (mo 0) 4 (co 5 k + 1))) 1 (updZ ((mo 1)) (12 + 30 * k + 4) (co 5 k + 1)))) H7 := hw_0
      show V p l e (rmL 2 0 0) s m args below meth cd Q 2 H7 lo7 0 0 44 [(0, .ref b), (1, .int (zI k))] []
      refine v_aload_n X dX10_appeals_44 45 rfl 0 rfl ?_
      refine v_iload_n X dX10_appeals_45 46 rfl 1 rfl ?_
      refine v_iconst X dX10_appeals_46 47 rfl ?_
      refine v_iconst X dX10_appeals_47 48 rfl ?_
      refine v_muV X hM (h_mo.1) (c_X10_set l E b (updC (updC mo 0 (updZ (mo 0) 4 (co 5 k + 1))) 1 (updZ ((mo 1)) (12 + 30 * k + 4) (co 5 k + 1))) k 2 0 (by omega) (by omega) (by omega) (by omega)) kvX10_set kiX10_set kl_X10_75 (q0 := 0) rfl rfl (As := [.int (zI k), .int (zI 2), .int (zI 0)]) rfl rfl rfl dX10_appeals_48 51 rfl (k' := 0) (n' := 0) rfl rfl (fsI (fun q q1 q2 => (Or.inl (fsH (by omega) (by omega))))) h_mo (fun rv H8 lo8 hM hF hpo => ?_)
      obtain ⟨rfl, hw_0⟩ := hpo
      have h_mo : PR E b (modelW E b (updC (updC mo 0 (updZ (mo 0) 4 (co 5 k + 1))) 1 (updZ ((updZ ((mo 1)) (12 + 30 * k + 4) (co 5 k + 1))) (12 + 30 * k + 2) 0))) H8 := hw_0
      show V p l e (rmL 2 0 0) s m args below meth cd Q 2 H8 lo8 0 0 51 [(0, .ref b), (1, .int (zI k))] []
      refine v_aload_n X dX10_appeals_51 52 rfl 0 rfl ?_
      refine v_iload_n X dX10_appeals_52 53 rfl 1 rfl ?_
      refine v_iconst X dX10_appeals_53 54 rfl ?_
      refine v_iconst X dX10_appeals_54 55 rfl ?_
      refine v_muV X hM (h_mo.1) (c_X10_set l E b (updC (updC mo 0 (updZ (mo 0) 4 (co 5 k + 1))) 1 (updZ ((updZ ((mo 1)) (12 + 30 * k + 4) (co 5 k + 1))) (12 + 30 * k + 2) 0)) k 3 0 (by omega) (by omega) (by omega) (by omega)) kvX10_set kiX10_set kl_X10_75 (q0 := 0) rfl rfl (As := [.int (zI k), .int (zI 3), .int (zI 0)]) rfl rfl rfl dX10_appeals_55 58 rfl (k' := 0) (n' := 0) rfl rfl (fsI (fun q q1 q2 => (Or.inl (fsH (by omega) (by omega))))) h_mo (fun rv H9 lo9 hM hF hpo => ?_)
      obtain ⟨rfl, hw_0⟩ := hpo
      have h_mo : PR E b (modelW E b (updC (updC mo 0 (updZ (mo 0) 4 (co 5 k + 1))) 1 (updZ ((updZ ((updZ ((mo 1)) (12 + 30 * k + 4) (co 5 k + 1))) (12 + 30 * k + 2) 0)) (12 + 30 * k + 3) 0))) H9 := hw_0
      show V p l e (rmL 2 0 0) s m args below meth cd Q 2 H9 lo9 0 0 58 [(0, .ref b), (1, .int (zI k))] []
      refine v_iconst X dX10_appeals_58 59 rfl ?_
      subst hQ; exact m_iret X hr hlk hM dX10_appeals_59 rfl ⟨(updZ ((updZ ((updZ ((mo 1)) (12 + 30 * k + 4) (co 5 k + 1))) (12 + 30 * k + 2) 0)) (12 + 30 * k + 3) 0), rfl, (by exact rel_opC5 hO hR (by omega) (by omega)), (by intro i hi; simp only [updZ, clA, if_true, if_false]; omega), (PR.to h_mo (by rw [show opV co 5 k 0 0 0 = co 5 k + 1 by rfl]))⟩
    · skip
      exfalso; omega
  · skip
    exfalso; omega
set_option maxHeartbeats 4000000 in
set_option maxRecDepth 20000 in
theorem c_X10_closes_ok (l : Launch) (E : Nat → Nat → Nat) (b : Nat) (mo : Nat → Int → Int) (co : Nat → Int → Int) (k : Int) (hO : OkC co) (hR : RelC co (mo 1)) (hI : TsI co) (gk : Rg k) (hf : flC co 6 k 0 0 = 0) : Mu l yX10_closes cX10_closes 2 (some .int) 2 0 0 E [(b, 5)] [.ref b, .int (zI k)] (fun H => PR E b (modelW E b mo) H) (fun rv H => ∃ g1 : Int → Int, rv = some (.int (zI 0)) ∧ RelC (opC co 6 k 0 0 0) g1 ∧ (∀ i : Int, 492 ≤ i → g1 i = mo 1 i) ∧ PR E b (modelW E b (updC (updC mo 0 (updZ (mo 0) 4 (opV co 6 k 0 0 0))) 1 g1)) H) := by
  refine Mu.start (own := RX10) rfl (by decide +kernel) (Nat.le_of_ble_eq_true rfl) ?_
  intro p e s m below meth cd args Q hQ X hr hlk hnm hM hPr
  have h_mo := hPr
  have hb0 := hO.b0
  have hbw := hO.bw
  have hr0 := hR.s0
  have hr1 := hR.s1
  have hq := flC_5 (Or.inr rfl) hf
  have hOf : OkC (finishC co k) := OkC.upd hO (by decide) (by decide) ⟨by decide, by decide⟩
  have hRf := rel_finishC hO hR (show 0 ≤ k by omega) (show k < co 0 0 by omega)
  refine v_aload_n X dX10_closes_0 1 rfl 0 rfl ?_
  refine v_iload_n X dX10_closes_1 2 rfl 1 rfl ?_
  refine v_rdV X hM.C h_mo.1 (c_X10_isCase l E b mo co k hO hR gk) kvX10_isCase kiX10_isCase kl_X10_92 rfl rfl (As := [.int (zI k)]) rfl rfl rfl dX10_closes_2 5 rfl ?_
  show V p l e (rmL 2 0 0) s m args below meth cd Q 2 s.heap [] 0 0 5 [(0, .ref b), (1, .int (zI k))] [.int (zI (bz (0 ≤ k ∧ k < co 0 0)))]
  refine v_bif_ne X dX10_closes_5 8 10 rfl (by decide) (fun c_1 => ?_) (fun c_1 => ?_)
  · skip
    refine v_aload_n X dX10_closes_10 11 rfl 0 rfl ?_
    refine v_iload_n X dX10_closes_11 12 rfl 1 rfl ?_
    refine v_iconst X dX10_closes_12 13 rfl ?_
    have hb_2 := hO.b0
    refine v_rdV X hM.C h_mo.1 (c_X10_c_2 l E b mo co k hO hR (by omega) (by omega)) kvX10_c kiX10_c kl_X10_47 rfl rfl (As := [.int (zI k), .int (zI 2)]) rfl rfl rfl dX10_closes_13 16 rfl ?_
    show V p l e (rmL 2 0 0) s m args below meth cd Q 2 s.heap [] 0 0 16 [(0, .ref b), (1, .int (zI k))] [.int (zI (co 3 k))]
    have hb_3 := hO.b3 k
    refine v_iconst X dX10_closes_16 17 rfl ?_
    refine v_icmp_eq X (by omega) (by omega) dX10_closes_17 20 22 rfl (by decide) (fun c_4 => ?_) (fun c_4 => ?_)
    · skip
      refine v_aload_n X dX10_closes_22 23 rfl 0 rfl ?_
      refine v_iload_n X dX10_closes_23 24 rfl 1 rfl ?_
      refine v_iconst X dX10_closes_24 25 rfl ?_
      refine v_iconst X dX10_closes_25 26 rfl ?_
      refine v_muV X hM (h_mo.1) (c_X10_set l E b mo k 2 2 (by omega) (by omega) (by omega) (by omega)) kvX10_set kiX10_set kl_X10_75 (q0 := 0) rfl rfl (As := [.int (zI k), .int (zI 2), .int (zI 2)]) rfl rfl rfl dX10_closes_26 29 rfl (k' := 0) (n' := 0) rfl rfl (fsI (fun q q1 q2 => (Or.inl (fsH (by omega) (by omega))))) h_mo (fun rv H5 lo5 hM hF hpo => ?_)
      obtain ⟨rfl, hw_0⟩ := hpo
      have h_mo : PR E b (modelW E b (updC mo 1 (updZ ((mo 1)) (12 + 30 * k + 2) 2))) H5 := hw_0
      show V p l e (rmL 2 0 0) s m args below meth cd Q 2 H5 lo5 0 0 29 [(0, .ref b), (1, .int (zI k))] []
      refine v_aload_n X dX10_closes_29 30 rfl 0 rfl ?_
      refine v_aload_n X dX10_closes_30 31 rfl 0 rfl ?_
      refine v_iconst X dX10_closes_31 32 rfl ?_
      refine v_iconst X dX10_closes_32 33 rfl ?_
      refine v_rdV X hM.C h_mo.1 (c_X10_inPhase_2 l E b (updC mo 1 (updZ ((mo 1)) (12 + 30 * k + 2) 2)) (finishC co k) hOf hRf) kvX10_inPhase kiX10_inPhase kl_X10_118 rfl rfl (As := [.int (zI 2), .int (zI (-1))]) rfl rfl rfl dX10_closes_33 36 rfl ?_
      show V p l e (rmL 2 0 0) s m args below meth cd Q 2 H5 lo5 0 0 36 [(0, .ref b), (1, .int (zI k))] [.int (zI (sumZ (fun j => bz ((finishC co k) 3 j = 2)) ((finishC co k) 0 0).toNat)), .ref b]
      have hf_6 := cnt_b (fun j => (finishC co k) 3 j = 2) ((finishC co k) 0 0).toNat
      refine v_putf X hM h_mo ftX10 0 rfl rfl 4 (by decide) kf_X10_40 (fun _ h => h) rfl rfl rfl (Nat.le_of_ble_eq_true rfl) (Or.inl (fsH (by omega) (by omega))) dX10_closes_36 39 rfl (ws' := modelW E b (updC (updC mo 0 (updZ (mo 0) 4 (sumZ (fun j => bz ((finishC co k) 3 j = 2)) ((finishC co k) 0 0).toNat))) 1 (updZ ((mo 1)) (12 + 30 * k + 2) 2))) rfl (fun H7 lo7 hzz hM hF h_mo => ?_)
      clear hzz
      refine v_iconst X dX10_closes_39 40 rfl ?_
      subst hQ; exact m_iret X hr hlk hM dX10_closes_40 rfl ⟨(updZ ((mo 1)) (12 + 30 * k + 2) 2), rfl, (by show RelC (finishC co k) _; exact rel_finishC hO hR (by omega) (by omega)), (by intro i hi; simp only [updZ, clA, if_true, if_false]; omega), (PR.to h_mo (by rw [show opV co 6 k 0 0 0 = sumZ (fun j => bz ((finishC co k) 3 j = 2)) ((finishC co k) 0 0).toNat by rfl]))⟩
    · skip
      exfalso; omega
  · skip
    exfalso; omega
set_option maxHeartbeats 4000000 in
set_option maxRecDepth 20000 in
theorem c_X10_charges_f2 (l : Launch) (E : Nat → Nat → Nat) (b : Nat) (mo : Nat → Int → Int) (co : Nat → Int → Int) (d : Int) (o : Int) (hO : OkC co) (hR : RelC co (mo 1)) (hI : TsI co) (gd : Rg d) (go : Rg o) (hf : flC co 0 d o 0 = 2) : Mu l yX10_charges cX10_charges 5 (some .int) 2 0 0 E [] [.ref b, .int (zI d), .int (zI o)] (fun H => PR E b (modelW E b mo) H) (fun rv H => rv = some (.int (zI 2))) := by
  refine Mu.start (own := RX10) rfl (by decide +kernel) (Nat.le_of_ble_eq_true rfl) ?_
  intro p e s m below meth cd args Q hQ X hr hlk hnm hM hPr
  have h_mo := hPr
  have hb0 := hO.b0
  have hbw := hO.bw
  have hr0 := hR.s0
  have hr1 := hR.s1
  have hq := flC_0_2 hf
  refine v_iload_n X dX10_charges_0 1 rfl 1 rfl ?_
  refine v_rdS X hM.C (ws0 E s.heap) (c_X10_isDefendant l E d gd) kvX10_isDefendant ksX10_isDefendant kl_X10_65 (As := [.int (zI d)]) rfl rfl rfl dX10_charges_1 4 rfl ?_
  show V p l e (rmL 2 0 0) s m args below meth cd Q 5 s.heap [] 0 0 4 [(0, .ref b), (1, .int (zI d)), (2, .int (zI o))] [.int (zI (bz (0 ≤ d ∧ d < 6)))]
  refine v_bif_eq X dX10_charges_4 7 14 rfl (by decide) (fun c_1 => ?_) (fun c_1 => ?_)
  · skip
    refine v_iconst X dX10_charges_14 15 rfl ?_
    subst hQ; exact m_iret X hr hlk hM dX10_charges_15 rfl rfl
  · skip
    refine v_iload_n X dX10_charges_7 8 rfl 2 rfl ?_
    refine v_rdS X hM.C (ws0 E s.heap) (c_X10_isOffence l E o go) kvX10_isOffence ksX10_isOffence kl_X10_69 (As := [.int (zI o)]) rfl rfl rfl dX10_charges_8 11 rfl ?_
    show V p l e (rmL 2 0 0) s m args below meth cd Q 5 s.heap [] 0 0 11 [(0, .ref b), (1, .int (zI d)), (2, .int (zI o))] [.int (zI (bz (0 ≤ o ∧ o < 5)))]
    refine v_bif_ne X dX10_charges_11 14 16 rfl (by decide) (fun c_2 => ?_) (fun c_2 => ?_)
    · skip
      exfalso; omega
    · skip
      refine v_iconst X dX10_charges_14 15 rfl ?_
      subst hQ; exact m_iret X hr hlk hM dX10_charges_15 rfl rfl
set_option maxHeartbeats 4000000 in
set_option maxRecDepth 20000 in
theorem c_X10_charges_f4 (l : Launch) (E : Nat → Nat → Nat) (b : Nat) (mo : Nat → Int → Int) (co : Nat → Int → Int) (d : Int) (o : Int) (hO : OkC co) (hR : RelC co (mo 1)) (hI : TsI co) (gd : Rg d) (go : Rg o) (hf : flC co 0 d o 0 = 4) : Mu l yX10_charges cX10_charges 5 (some .int) 2 0 0 E [] [.ref b, .int (zI d), .int (zI o)] (fun H => PR E b (modelW E b mo) H) (fun rv H => rv = some (.int (zI 4))) := by
  refine Mu.start (own := RX10) rfl (by decide +kernel) (Nat.le_of_ble_eq_true rfl) ?_
  intro p e s m below meth cd args Q hQ X hr hlk hnm hM hPr
  have h_mo := hPr
  have hb0 := hO.b0
  have hbw := hO.bw
  have hr0 := hR.s0
  have hr1 := hR.s1
  have hq := flC_0_4 hf
  refine v_iload_n X dX10_charges_0 1 rfl 1 rfl ?_
  refine v_rdS X hM.C (ws0 E s.heap) (c_X10_isDefendant l E d gd) kvX10_isDefendant ksX10_isDefendant kl_X10_65 (As := [.int (zI d)]) rfl rfl rfl dX10_charges_1 4 rfl ?_
  show V p l e (rmL 2 0 0) s m args below meth cd Q 5 s.heap [] 0 0 4 [(0, .ref b), (1, .int (zI d)), (2, .int (zI o))] [.int (zI (bz (0 ≤ d ∧ d < 6)))]
  refine v_bif_eq X dX10_charges_4 7 14 rfl (by decide) (fun c_1 => ?_) (fun c_1 => ?_)
  · skip
    exfalso; omega
  · skip
    refine v_iload_n X dX10_charges_7 8 rfl 2 rfl ?_
    refine v_rdS X hM.C (ws0 E s.heap) (c_X10_isOffence l E o go) kvX10_isOffence ksX10_isOffence kl_X10_69 (As := [.int (zI o)]) rfl rfl rfl dX10_charges_8 11 rfl ?_
    show V p l e (rmL 2 0 0) s m args below meth cd Q 5 s.heap [] 0 0 11 [(0, .ref b), (1, .int (zI d)), (2, .int (zI o))] [.int (zI (bz (0 ≤ o ∧ o < 5)))]
    refine v_bif_ne X dX10_charges_11 14 16 rfl (by decide) (fun c_2 => ?_) (fun c_2 => ?_)
    · skip
      refine v_aload_n X dX10_charges_16 17 rfl 0 rfl ?_
      refine v_getf X hM.C h_mo.1 inX10 0 rfl rfl 1 (by decide) kf_X10_9 (fun _ h => h) rfl dX10_charges_17 20 rfl ?_
      refine v_iconst X dX10_charges_20 21 rfl ?_
      refine v_iald X hM.C h_mo.1 1 rfl (by omega) (by omega) (by omega) dX10_charges_21 22 rfl ?_
      show V p l e (rmL 2 0 0) s m args below meth cd Q 5 s.heap [] 0 0 22 [(0, .ref b), (1, .int (zI d)), (2, .int (zI o))] [.int (zI (mo 1 0))]
      refine v_istore_n X dX10_charges_22 23 rfl rfl (by decide) (L' := [(3, .int (zI (mo 1 0))), (0, .ref b), (1, .int (zI d)), (2, .int (zI o))]) rfl ?_
      refine v_aload_n X dX10_charges_23 24 rfl 1 rfl ?_
      refine v_iload_n X dX10_charges_24 25 rfl 2 rfl ?_
      refine v_iload_n X dX10_charges_25 26 rfl 3 rfl ?_
      refine v_rdV X hM.C h_mo.1 (c_X10_findCase l E b mo co d o hO hR gd go) kvX10_findCase kiX10_findCase kl_X10_72 rfl rfl (As := [.int (zI d), .int (zI o)]) rfl rfl rfl dX10_charges_26 29 rfl ?_
      show V p l e (rmL 2 0 0) s m args below meth cd Q 5 s.heap [] 0 0 29 [(3, .int (zI (mo 1 0))), (0, .ref b), (1, .int (zI d)), (2, .int (zI o))] [.int (zI (firstZ (fun j => co 1 j = d ∧ co 2 j = o) (co 0 0).toNat))]
      have hb_3 := hO.b0
      have hf_4 := firstZ_b (fun j => co 1 j = d ∧ co 2 j = o) (co 0 0).toNat
      refine v_if_ge X (by omega) dX10_charges_29 32 38 rfl (by decide) (fun c_5 => ?_) (fun c_5 => ?_)
      · skip
        refine v_iconst X dX10_charges_38 39 rfl ?_
        subst hQ; exact m_iret X hr hlk hM dX10_charges_39 rfl rfl
      · skip
        refine v_iload_n X dX10_charges_32 33 rfl 0 rfl ?_
        refine v_bipush X dX10_charges_33 35 rfl rfl ?_
        have hb_7 := hR.s0
        refine v_icmp_ne X (by omega) (by omega) dX10_charges_35 38 40 rfl (by decide) (fun c_6 => ?_) (fun c_6 => ?_)
        · skip
          exfalso; omega
        · skip
          refine v_iconst X dX10_charges_38 39 rfl ?_
          subst hQ; exact m_iret X hr hlk hM dX10_charges_39 rfl rfl
    · skip
      exfalso; omega
set_option maxHeartbeats 4000000 in
set_option maxRecDepth 20000 in
theorem c_X10_registers_f2 (l : Launch) (E : Nat → Nat → Nat) (b : Nat) (mo : Nat → Int → Int) (co : Nat → Int → Int) (x : Int) (hO : OkC co) (hR : RelC co (mo 1)) (hI : TsI co) (gx : Rg x) (hf : flC co 1 x 0 0 = 2) : Mu l yX10_registers cX10_registers 2 (some .int) 1 0 0 E [] [.ref b, .int (zI x)] (fun H => PR E b (modelW E b mo) H) (fun rv H => rv = some (.int (zI 2))) := by
  refine Mu.start (own := RX10) rfl (by decide +kernel) (Nat.le_of_ble_eq_true rfl) ?_
  intro p e s m below meth cd args Q hQ X hr hlk hnm hM hPr
  have h_mo := hPr
  have hb0 := hO.b0
  have hbw := hO.bw
  have hr0 := hR.s0
  have hr1 := hR.s1
  have hq := flC_1_2 hf
  refine v_iload_n X dX10_registers_0 1 rfl 1 rfl ?_
  refine v_iconst X dX10_registers_1 2 rfl ?_
  refine v_bipush X dX10_registers_2 4 rfl rfl ?_
  refine v_rdS X hM.C (ws0 E s.heap) (c_X10_in l E x 0 9 gx (by omega) (by omega)) kvX10_in ksX10_in kl_X10_43 (As := [.int (zI x), .int (zI 0), .int (zI 9)]) rfl rfl rfl dX10_registers_4 7 rfl ?_
  show V p l e (rmL 1 0 0) s m args below meth cd Q 2 s.heap [] 0 0 7 [(0, .ref b), (1, .int (zI x))] [.int (zI (bz (0 ≤ x ∧ x ≤ 9)))]
  refine v_bif_ne X dX10_registers_7 10 12 rfl (by decide) (fun c_1 => ?_) (fun c_1 => ?_)
  · skip
    exfalso; omega
  · skip
    refine v_iconst X dX10_registers_10 11 rfl ?_
    subst hQ; exact m_iret X hr hlk hM dX10_registers_11 rfl rfl
set_option maxHeartbeats 4000000 in
set_option maxRecDepth 20000 in
theorem c_X10_registers_f4 (l : Launch) (E : Nat → Nat → Nat) (b : Nat) (mo : Nat → Int → Int) (co : Nat → Int → Int) (x : Int) (hO : OkC co) (hR : RelC co (mo 1)) (hI : TsI co) (gx : Rg x) (hf : flC co 1 x 0 0 = 4) : Mu l yX10_registers cX10_registers 2 (some .int) 1 0 0 E [] [.ref b, .int (zI x)] (fun H => PR E b (modelW E b mo) H) (fun rv H => rv = some (.int (zI 4))) := by
  refine Mu.start (own := RX10) rfl (by decide +kernel) (Nat.le_of_ble_eq_true rfl) ?_
  intro p e s m below meth cd args Q hQ X hr hlk hnm hM hPr
  have h_mo := hPr
  have hb0 := hO.b0
  have hbw := hO.bw
  have hr0 := hR.s0
  have hr1 := hR.s1
  have hq := flC_1_4 hf
  refine v_iload_n X dX10_registers_0 1 rfl 1 rfl ?_
  refine v_iconst X dX10_registers_1 2 rfl ?_
  refine v_bipush X dX10_registers_2 4 rfl rfl ?_
  refine v_rdS X hM.C (ws0 E s.heap) (c_X10_in l E x 0 9 gx (by omega) (by omega)) kvX10_in ksX10_in kl_X10_43 (As := [.int (zI x), .int (zI 0), .int (zI 9)]) rfl rfl rfl dX10_registers_4 7 rfl ?_
  show V p l e (rmL 1 0 0) s m args below meth cd Q 2 s.heap [] 0 0 7 [(0, .ref b), (1, .int (zI x))] [.int (zI (bz (0 ≤ x ∧ x ≤ 9)))]
  refine v_bif_ne X dX10_registers_7 10 12 rfl (by decide) (fun c_1 => ?_) (fun c_1 => ?_)
  · skip
    refine v_aload_n X dX10_registers_12 13 rfl 0 rfl ?_
    refine v_getf X hM.C h_mo.1 inX10 0 rfl rfl 1 (by decide) kf_X10_9 (fun _ h => h) rfl dX10_registers_13 16 rfl ?_
    refine v_iconst X dX10_registers_16 17 rfl ?_
    refine v_iald X hM.C h_mo.1 1 rfl (by omega) (by omega) (by omega) dX10_registers_17 18 rfl ?_
    show V p l e (rmL 1 0 0) s m args below meth cd Q 2 s.heap [] 0 0 18 [(0, .ref b), (1, .int (zI x))] [.int (zI (mo 1 1))]
    refine v_bipush X dX10_registers_18 20 rfl rfl ?_
    have hb_3 := hR.s1
    refine v_icmp_ne X (by omega) (by omega) dX10_registers_20 23 25 rfl (by decide) (fun c_2 => ?_) (fun c_2 => ?_)
    · skip
      exfalso; omega
    · skip
      refine v_iconst X dX10_registers_23 24 rfl ?_
      subst hQ; exact m_iret X hr hlk hM dX10_registers_24 rfl rfl
  · skip
    exfalso; omega
set_option maxHeartbeats 4000000 in
set_option maxRecDepth 20000 in
theorem c_X10_testifies_f1 (l : Launch) (E : Nat → Nat → Nat) (b : Nat) (mo : Nat → Int → Int) (co : Nat → Int → Int) (k : Int) (w : Int) (sd : Int) (z : Int) (hO : OkC co) (hR : RelC co (mo 1)) (hI : TsI co) (gk : Rg k) (gw : Rg w) (gsd : Rg sd) (gz : Rg z) (hf : flC co 2 k w z = 1) : Mu l yX10_testifies cX10_testifies 6 (some .int) 2 0 0 E [] [.ref b, .int (zI k), .int (zI w), .int (zI sd), .int (zI z)] (fun H => PR E b (modelW E b mo) H) (fun rv H => rv = some (.int (zI 1))) := by
  refine Mu.start (own := RX10) rfl (by decide +kernel) (Nat.le_of_ble_eq_true rfl) ?_
  intro p e s m below meth cd args Q hQ X hr hlk hnm hM hPr
  have h_mo := hPr
  have hb0 := hO.b0
  have hbw := hO.bw
  have hr0 := hR.s0
  have hr1 := hR.s1
  have hq := flC_2_1 hf
  refine v_aload_n X dX10_testifies_0 1 rfl 0 rfl ?_
  refine v_iload_n X dX10_testifies_1 2 rfl 1 rfl ?_
  refine v_rdV X hM.C h_mo.1 (c_X10_isCase l E b mo co k hO hR gk) kvX10_isCase kiX10_isCase kl_X10_92 rfl rfl (As := [.int (zI k)]) rfl rfl rfl dX10_testifies_2 5 rfl ?_
  show V p l e (rmL 2 0 0) s m args below meth cd Q 6 s.heap [] 0 0 5 [(0, .ref b), (1, .int (zI k)), (2, .int (zI w)), (3, .int (zI sd)), (4, .int (zI z))] [.int (zI (bz (0 ≤ k ∧ k < co 0 0)))]
  refine v_bif_eq X dX10_testifies_5 8 16 rfl (by decide) (fun c_1 => ?_) (fun c_1 => ?_)
  · skip
    refine v_iconst X dX10_testifies_16 17 rfl ?_
    subst hQ; exact m_iret X hr hlk hM dX10_testifies_17 rfl rfl
  · skip
    refine v_aload_n X dX10_testifies_8 9 rfl 0 rfl ?_
    refine v_iload_n X dX10_testifies_9 10 rfl 2 rfl ?_
    refine v_rdV X hM.C h_mo.1 (c_X10_isWitness l E b mo co w hO hR gw) kvX10_isWitness kiX10_isWitness kl_X10_95 rfl rfl (As := [.int (zI w)]) rfl rfl rfl dX10_testifies_10 13 rfl ?_
    show V p l e (rmL 2 0 0) s m args below meth cd Q 6 s.heap [] 0 0 13 [(0, .ref b), (1, .int (zI k)), (2, .int (zI w)), (3, .int (zI sd)), (4, .int (zI z))] [.int (zI (bz (0 ≤ w ∧ w < co 0 1)))]
    refine v_bif_ne X dX10_testifies_13 16 18 rfl (by decide) (fun c_2 => ?_) (fun c_2 => ?_)
    · skip
      exfalso; omega
    · skip
      refine v_iconst X dX10_testifies_16 17 rfl ?_
      subst hQ; exact m_iret X hr hlk hM dX10_testifies_17 rfl rfl
set_option maxHeartbeats 4000000 in
set_option maxRecDepth 20000 in
theorem c_X10_testifies_f2 (l : Launch) (E : Nat → Nat → Nat) (b : Nat) (mo : Nat → Int → Int) (co : Nat → Int → Int) (k : Int) (w : Int) (sd : Int) (z : Int) (hO : OkC co) (hR : RelC co (mo 1)) (hI : TsI co) (gk : Rg k) (gw : Rg w) (gsd : Rg sd) (gz : Rg z) (hf : flC co 2 k w z = 2) : Mu l yX10_testifies cX10_testifies 6 (some .int) 2 0 0 E [] [.ref b, .int (zI k), .int (zI w), .int (zI sd), .int (zI z)] (fun H => PR E b (modelW E b mo) H) (fun rv H => rv = some (.int (zI 2))) := by
  refine Mu.start (own := RX10) rfl (by decide +kernel) (Nat.le_of_ble_eq_true rfl) ?_
  intro p e s m below meth cd args Q hQ X hr hlk hnm hM hPr
  have h_mo := hPr
  have hb0 := hO.b0
  have hbw := hO.bw
  have hr0 := hR.s0
  have hr1 := hR.s1
  have hq := flC_2_2 hf
  refine v_aload_n X dX10_testifies_0 1 rfl 0 rfl ?_
  refine v_iload_n X dX10_testifies_1 2 rfl 1 rfl ?_
  refine v_rdV X hM.C h_mo.1 (c_X10_isCase l E b mo co k hO hR gk) kvX10_isCase kiX10_isCase kl_X10_92 rfl rfl (As := [.int (zI k)]) rfl rfl rfl dX10_testifies_2 5 rfl ?_
  show V p l e (rmL 2 0 0) s m args below meth cd Q 6 s.heap [] 0 0 5 [(0, .ref b), (1, .int (zI k)), (2, .int (zI w)), (3, .int (zI sd)), (4, .int (zI z))] [.int (zI (bz (0 ≤ k ∧ k < co 0 0)))]
  refine v_bif_eq X dX10_testifies_5 8 16 rfl (by decide) (fun c_1 => ?_) (fun c_1 => ?_)
  · skip
    exfalso; omega
  · skip
    refine v_aload_n X dX10_testifies_8 9 rfl 0 rfl ?_
    refine v_iload_n X dX10_testifies_9 10 rfl 2 rfl ?_
    refine v_rdV X hM.C h_mo.1 (c_X10_isWitness l E b mo co w hO hR gw) kvX10_isWitness kiX10_isWitness kl_X10_95 rfl rfl (As := [.int (zI w)]) rfl rfl rfl dX10_testifies_10 13 rfl ?_
    show V p l e (rmL 2 0 0) s m args below meth cd Q 6 s.heap [] 0 0 13 [(0, .ref b), (1, .int (zI k)), (2, .int (zI w)), (3, .int (zI sd)), (4, .int (zI z))] [.int (zI (bz (0 ≤ w ∧ w < co 0 1)))]
    refine v_bif_ne X dX10_testifies_13 16 18 rfl (by decide) (fun c_2 => ?_) (fun c_2 => ?_)
    · skip
      refine v_iload X dX10_testifies_18 20 rfl 4 rfl ?_
      refine v_iconst X dX10_testifies_20 21 rfl ?_
      refine v_iconst X dX10_testifies_21 22 rfl ?_
      refine v_rdS X hM.C (ws0 E s.heap) (c_X10_in l E z 1 5 gz (by omega) (by omega)) kvX10_in ksX10_in kl_X10_43 (As := [.int (zI z), .int (zI 1), .int (zI 5)]) rfl rfl rfl dX10_testifies_22 25 rfl ?_
      show V p l e (rmL 2 0 0) s m args below meth cd Q 6 s.heap [] 0 0 25 [(0, .ref b), (1, .int (zI k)), (2, .int (zI w)), (3, .int (zI sd)), (4, .int (zI z))] [.int (zI (bz (1 ≤ z ∧ z ≤ 5)))]
      refine v_bif_ne X dX10_testifies_25 28 30 rfl (by decide) (fun c_3 => ?_) (fun c_3 => ?_)
      · skip
        exfalso; omega
      · skip
        refine v_iconst X dX10_testifies_28 29 rfl ?_
        subst hQ; exact m_iret X hr hlk hM dX10_testifies_29 rfl rfl
    · skip
      exfalso; omega
set_option maxHeartbeats 4000000 in
set_option maxRecDepth 20000 in
theorem c_X10_testifies_f4 (l : Launch) (E : Nat → Nat → Nat) (b : Nat) (mo : Nat → Int → Int) (co : Nat → Int → Int) (k : Int) (w : Int) (sd : Int) (z : Int) (hO : OkC co) (hR : RelC co (mo 1)) (hI : TsI co) (gk : Rg k) (gw : Rg w) (gsd : Rg sd) (gz : Rg z) (hf : flC co 2 k w z = 4) : Mu l yX10_testifies cX10_testifies 6 (some .int) 2 0 0 E [] [.ref b, .int (zI k), .int (zI w), .int (zI sd), .int (zI z)] (fun H => PR E b (modelW E b mo) H) (fun rv H => rv = some (.int (zI 4))) := by
  refine Mu.start (own := RX10) rfl (by decide +kernel) (Nat.le_of_ble_eq_true rfl) ?_
  intro p e s m below meth cd args Q hQ X hr hlk hnm hM hPr
  have h_mo := hPr
  have hb0 := hO.b0
  have hbw := hO.bw
  have hr0 := hR.s0
  have hr1 := hR.s1
  have hq := flC_2_4 hf
  have hsp := swC_iff (co := co) (k := k) (w := w) hO hI (by omega) (by omega) (by omega) (by omega)
  refine v_aload_n X dX10_testifies_0 1 rfl 0 rfl ?_
  refine v_iload_n X dX10_testifies_1 2 rfl 1 rfl ?_
  refine v_rdV X hM.C h_mo.1 (c_X10_isCase l E b mo co k hO hR gk) kvX10_isCase kiX10_isCase kl_X10_92 rfl rfl (As := [.int (zI k)]) rfl rfl rfl dX10_testifies_2 5 rfl ?_
  show V p l e (rmL 2 0 0) s m args below meth cd Q 6 s.heap [] 0 0 5 [(0, .ref b), (1, .int (zI k)), (2, .int (zI w)), (3, .int (zI sd)), (4, .int (zI z))] [.int (zI (bz (0 ≤ k ∧ k < co 0 0)))]
  refine v_bif_eq X dX10_testifies_5 8 16 rfl (by decide) (fun c_1 => ?_) (fun c_1 => ?_)
  · skip
    exfalso; omega
  · skip
    refine v_aload_n X dX10_testifies_8 9 rfl 0 rfl ?_
    refine v_iload_n X dX10_testifies_9 10 rfl 2 rfl ?_
    refine v_rdV X hM.C h_mo.1 (c_X10_isWitness l E b mo co w hO hR gw) kvX10_isWitness kiX10_isWitness kl_X10_95 rfl rfl (As := [.int (zI w)]) rfl rfl rfl dX10_testifies_10 13 rfl ?_
    show V p l e (rmL 2 0 0) s m args below meth cd Q 6 s.heap [] 0 0 13 [(0, .ref b), (1, .int (zI k)), (2, .int (zI w)), (3, .int (zI sd)), (4, .int (zI z))] [.int (zI (bz (0 ≤ w ∧ w < co 0 1)))]
    refine v_bif_ne X dX10_testifies_13 16 18 rfl (by decide) (fun c_2 => ?_) (fun c_2 => ?_)
    · skip
      refine v_iload X dX10_testifies_18 20 rfl 4 rfl ?_
      refine v_iconst X dX10_testifies_20 21 rfl ?_
      refine v_iconst X dX10_testifies_21 22 rfl ?_
      refine v_rdS X hM.C (ws0 E s.heap) (c_X10_in l E z 1 5 gz (by omega) (by omega)) kvX10_in ksX10_in kl_X10_43 (As := [.int (zI z), .int (zI 1), .int (zI 5)]) rfl rfl rfl dX10_testifies_22 25 rfl ?_
      show V p l e (rmL 2 0 0) s m args below meth cd Q 6 s.heap [] 0 0 25 [(0, .ref b), (1, .int (zI k)), (2, .int (zI w)), (3, .int (zI sd)), (4, .int (zI z))] [.int (zI (bz (1 ≤ z ∧ z ≤ 5)))]
      refine v_bif_ne X dX10_testifies_25 28 30 rfl (by decide) (fun c_3 => ?_) (fun c_3 => ?_)
      · skip
        refine v_aload_n X dX10_testifies_30 31 rfl 0 rfl ?_
        refine v_iload_n X dX10_testifies_31 32 rfl 1 rfl ?_
        refine v_iconst X dX10_testifies_32 33 rfl ?_
        have hb_4 := hO.b0
        refine v_rdV X hM.C h_mo.1 (c_X10_c_5 l E b mo co k hO hR (by omega) (by omega)) kvX10_c kiX10_c kl_X10_47 rfl rfl (As := [.int (zI k), .int (zI 5)]) rfl rfl rfl dX10_testifies_33 36 rfl ?_
        show V p l e (rmL 2 0 0) s m args below meth cd Q 6 s.heap [] 0 0 36 [(0, .ref b), (1, .int (zI k)), (2, .int (zI w)), (3, .int (zI sd)), (4, .int (zI z))] [.int (zI (co 6 k))]
        have hb_5 := hO.b6 k
        refine v_istore X dX10_testifies_36 38 rfl (by decide) (L' := [(5, .int (zI (co 6 k))), (0, .ref b), (1, .int (zI k)), (2, .int (zI w)), (3, .int (zI sd)), (4, .int (zI z))]) rfl ?_
        refine v_aload_n X dX10_testifies_38 39 rfl 1 rfl ?_
        refine v_iload_n X dX10_testifies_39 40 rfl 2 rfl ?_
        refine v_iconst X dX10_testifies_40 41 rfl ?_
        refine v_rdV X hM.C h_mo.1 (c_X10_c_2 l E b mo co k hO hR (by omega) (by omega)) kvX10_c kiX10_c kl_X10_47 rfl rfl (As := [.int (zI k), .int (zI 2)]) rfl rfl rfl dX10_testifies_41 44 rfl ?_
        show V p l e (rmL 2 0 0) s m args below meth cd Q 6 s.heap [] 0 0 44 [(5, .int (zI (co 6 k))), (0, .ref b), (1, .int (zI k)), (2, .int (zI w)), (3, .int (zI sd)), (4, .int (zI z))] [.int (zI (co 3 k))]
        have hb_6 := hO.b3 k
        refine v_if_ne X (by omega) dX10_testifies_44 47 63 rfl (by decide) (fun c_7 => ?_) (fun c_7 => ?_)
        · skip
          refine v_iconst X dX10_testifies_63 64 rfl ?_
          subst hQ; exact m_iret X hr hlk hM dX10_testifies_64 rfl rfl
        · skip
          refine v_aload_n X dX10_testifies_47 48 rfl 1 rfl ?_
          refine v_iload_n X dX10_testifies_48 49 rfl 2 rfl ?_
          refine v_iload_n X dX10_testifies_49 50 rfl 3 rfl ?_
          refine v_rdV X hM.C h_mo.1 (c_X10_spokenBy l E b mo co k w hO hR (by omega) (by omega) gw) kvX10_spokenBy kiX10_spokenBy kl_X10_98 rfl rfl (As := [.int (zI k), .int (zI w)]) rfl rfl rfl dX10_testifies_50 53 rfl ?_
          show V p l e (rmL 2 0 0) s m args below meth cd Q 6 s.heap [] 0 0 53 [(5, .int (zI (co 6 k))), (0, .ref b), (1, .int (zI k)), (2, .int (zI w)), (3, .int (zI sd)), (4, .int (zI z))] [.int (zI (swC co k w))]
          have hf_8 := swC_b hO k w
          refine v_if_ge X (by omega) dX10_testifies_53 56 63 rfl (by decide) (fun c_9 => ?_) (fun c_9 => ?_)
          · skip
            refine v_iconst X dX10_testifies_63 64 rfl ?_
            subst hQ; exact m_iret X hr hlk hM dX10_testifies_64 rfl rfl
          · skip
            refine v_iload X dX10_testifies_56 58 rfl 0 rfl ?_
            refine v_bipush X dX10_testifies_58 60 rfl rfl ?_
            refine v_icmp_ne X (by omega) (by omega) dX10_testifies_60 63 65 rfl (by decide) (fun c_10 => ?_) (fun c_10 => ?_)
            · skip
              exfalso; omega
            · skip
              refine v_iconst X dX10_testifies_63 64 rfl ?_
              subst hQ; exact m_iret X hr hlk hM dX10_testifies_64 rfl rfl
      · skip
        exfalso; omega
    · skip
      exfalso; omega
set_option maxHeartbeats 4000000 in
set_option maxRecDepth 20000 in
theorem c_X10_asks_f1 (l : Launch) (E : Nat → Nat → Nat) (b : Nat) (mo : Nat → Int → Int) (co : Nat → Int → Int) (k : Int) (w : Int) (f : Int) (hO : OkC co) (hR : RelC co (mo 1)) (hI : TsI co) (gk : Rg k) (gw : Rg w) (gf : Rg f) (hf : flC co 3 k w 0 = 1) : Mu l yX10_asks cX10_asks 6 (some .int) 2 0 0 E [] [.ref b, .int (zI k), .int (zI w), .int (zI f)] (fun H => PR E b (modelW E b mo) H) (fun rv H => rv = some (.int (zI 1))) := by
  refine Mu.start (own := RX10) rfl (by decide +kernel) (Nat.le_of_ble_eq_true rfl) ?_
  intro p e s m below meth cd args Q hQ X hr hlk hnm hM hPr
  have h_mo := hPr
  have hb0 := hO.b0
  have hbw := hO.bw
  have hr0 := hR.s0
  have hr1 := hR.s1
  have hq := flC_3_1 hf
  refine v_aload_n X dX10_asks_0 1 rfl 0 rfl ?_
  refine v_iload_n X dX10_asks_1 2 rfl 1 rfl ?_
  refine v_rdV X hM.C h_mo.1 (c_X10_isCase l E b mo co k hO hR gk) kvX10_isCase kiX10_isCase kl_X10_92 rfl rfl (As := [.int (zI k)]) rfl rfl rfl dX10_asks_2 5 rfl ?_
  show V p l e (rmL 2 0 0) s m args below meth cd Q 6 s.heap [] 0 0 5 [(0, .ref b), (1, .int (zI k)), (2, .int (zI w)), (3, .int (zI f))] [.int (zI (bz (0 ≤ k ∧ k < co 0 0)))]
  refine v_bif_eq X dX10_asks_5 8 16 rfl (by decide) (fun c_1 => ?_) (fun c_1 => ?_)
  · skip
    refine v_iconst X dX10_asks_16 17 rfl ?_
    subst hQ; exact m_iret X hr hlk hM dX10_asks_17 rfl rfl
  · skip
    refine v_aload_n X dX10_asks_8 9 rfl 0 rfl ?_
    refine v_iload_n X dX10_asks_9 10 rfl 2 rfl ?_
    refine v_rdV X hM.C h_mo.1 (c_X10_isWitness l E b mo co w hO hR gw) kvX10_isWitness kiX10_isWitness kl_X10_95 rfl rfl (As := [.int (zI w)]) rfl rfl rfl dX10_asks_10 13 rfl ?_
    show V p l e (rmL 2 0 0) s m args below meth cd Q 6 s.heap [] 0 0 13 [(0, .ref b), (1, .int (zI k)), (2, .int (zI w)), (3, .int (zI f))] [.int (zI (bz (0 ≤ w ∧ w < co 0 1)))]
    refine v_bif_ne X dX10_asks_13 16 18 rfl (by decide) (fun c_2 => ?_) (fun c_2 => ?_)
    · skip
      exfalso; omega
    · skip
      refine v_iconst X dX10_asks_16 17 rfl ?_
      subst hQ; exact m_iret X hr hlk hM dX10_asks_17 rfl rfl
set_option maxHeartbeats 4000000 in
set_option maxRecDepth 20000 in
theorem c_X10_asks_f3 (l : Launch) (E : Nat → Nat → Nat) (b : Nat) (mo : Nat → Int → Int) (co : Nat → Int → Int) (k : Int) (w : Int) (f : Int) (hO : OkC co) (hR : RelC co (mo 1)) (hI : TsI co) (gk : Rg k) (gw : Rg w) (gf : Rg f) (hf : flC co 3 k w 0 = 3) : Mu l yX10_asks cX10_asks 6 (some .int) 2 0 0 E [] [.ref b, .int (zI k), .int (zI w), .int (zI f)] (fun H => PR E b (modelW E b mo) H) (fun rv H => rv = some (.int (zI 3))) := by
  refine Mu.start (own := RX10) rfl (by decide +kernel) (Nat.le_of_ble_eq_true rfl) ?_
  intro p e s m below meth cd args Q hQ X hr hlk hnm hM hPr
  have h_mo := hPr
  have hb0 := hO.b0
  have hbw := hO.bw
  have hr0 := hR.s0
  have hr1 := hR.s1
  have hq := flC_3_3 hf
  have hsp := swC_iff (co := co) (k := k) (w := w) hO hI (by omega) (by omega) (by omega) (by omega)
  refine v_aload_n X dX10_asks_0 1 rfl 0 rfl ?_
  refine v_iload_n X dX10_asks_1 2 rfl 1 rfl ?_
  refine v_rdV X hM.C h_mo.1 (c_X10_isCase l E b mo co k hO hR gk) kvX10_isCase kiX10_isCase kl_X10_92 rfl rfl (As := [.int (zI k)]) rfl rfl rfl dX10_asks_2 5 rfl ?_
  show V p l e (rmL 2 0 0) s m args below meth cd Q 6 s.heap [] 0 0 5 [(0, .ref b), (1, .int (zI k)), (2, .int (zI w)), (3, .int (zI f))] [.int (zI (bz (0 ≤ k ∧ k < co 0 0)))]
  refine v_bif_eq X dX10_asks_5 8 16 rfl (by decide) (fun c_1 => ?_) (fun c_1 => ?_)
  · skip
    exfalso; omega
  · skip
    refine v_aload_n X dX10_asks_8 9 rfl 0 rfl ?_
    refine v_iload_n X dX10_asks_9 10 rfl 2 rfl ?_
    refine v_rdV X hM.C h_mo.1 (c_X10_isWitness l E b mo co w hO hR gw) kvX10_isWitness kiX10_isWitness kl_X10_95 rfl rfl (As := [.int (zI w)]) rfl rfl rfl dX10_asks_10 13 rfl ?_
    show V p l e (rmL 2 0 0) s m args below meth cd Q 6 s.heap [] 0 0 13 [(0, .ref b), (1, .int (zI k)), (2, .int (zI w)), (3, .int (zI f))] [.int (zI (bz (0 ≤ w ∧ w < co 0 1)))]
    refine v_bif_ne X dX10_asks_13 16 18 rfl (by decide) (fun c_2 => ?_) (fun c_2 => ?_)
    · skip
      refine v_aload_n X dX10_asks_18 19 rfl 0 rfl ?_
      refine v_iload_n X dX10_asks_19 20 rfl 1 rfl ?_
      refine v_iload_n X dX10_asks_20 21 rfl 2 rfl ?_
      have hb_3 := hO.b0
      refine v_rdV X hM.C h_mo.1 (c_X10_spokenBy l E b mo co k w hO hR (by omega) (by omega) gw) kvX10_spokenBy kiX10_spokenBy kl_X10_98 rfl rfl (As := [.int (zI k), .int (zI w)]) rfl rfl rfl dX10_asks_21 24 rfl ?_
      show V p l e (rmL 2 0 0) s m args below meth cd Q 6 s.heap [] 0 0 24 [(0, .ref b), (1, .int (zI k)), (2, .int (zI w)), (3, .int (zI f))] [.int (zI (swC co k w))]
      have hf_4 := swC_b hO k w
      refine v_istore X dX10_asks_24 26 rfl (by decide) (L' := [(4, .int (zI (swC co k w))), (0, .ref b), (1, .int (zI k)), (2, .int (zI w)), (3, .int (zI f))]) rfl ?_
      refine v_iload X dX10_asks_26 28 rfl 0 rfl ?_
      refine v_if_ge X (by omega) dX10_asks_28 31 33 rfl (by decide) (fun c_5 => ?_) (fun c_5 => ?_)
      · skip
        exfalso; omega
      · skip
        refine v_iconst X dX10_asks_31 32 rfl ?_
        subst hQ; exact m_iret X hr hlk hM dX10_asks_32 rfl rfl
    · skip
      exfalso; omega
set_option maxHeartbeats 4000000 in
set_option maxRecDepth 20000 in
theorem c_X10_asks_f4 (l : Launch) (E : Nat → Nat → Nat) (b : Nat) (mo : Nat → Int → Int) (co : Nat → Int → Int) (k : Int) (w : Int) (f : Int) (hO : OkC co) (hR : RelC co (mo 1)) (hI : TsI co) (gk : Rg k) (gw : Rg w) (gf : Rg f) (hf : flC co 3 k w 0 = 4) : Mu l yX10_asks cX10_asks 6 (some .int) 2 0 0 E [] [.ref b, .int (zI k), .int (zI w), .int (zI f)] (fun H => PR E b (modelW E b mo) H) (fun rv H => rv = some (.int (zI 4))) := by
  refine Mu.start (own := RX10) rfl (by decide +kernel) (Nat.le_of_ble_eq_true rfl) ?_
  intro p e s m below meth cd args Q hQ X hr hlk hnm hM hPr
  have h_mo := hPr
  have hb0 := hO.b0
  have hbw := hO.bw
  have hr0 := hR.s0
  have hr1 := hR.s1
  have hq := flC_3_4 hf
  have hsp := swC_iff (co := co) (k := k) (w := w) hO hI (by omega) (by omega) (by omega) (by omega)
  have hsb := swC_b hO k w
  refine v_aload_n X dX10_asks_0 1 rfl 0 rfl ?_
  refine v_iload_n X dX10_asks_1 2 rfl 1 rfl ?_
  refine v_rdV X hM.C h_mo.1 (c_X10_isCase l E b mo co k hO hR gk) kvX10_isCase kiX10_isCase kl_X10_92 rfl rfl (As := [.int (zI k)]) rfl rfl rfl dX10_asks_2 5 rfl ?_
  show V p l e (rmL 2 0 0) s m args below meth cd Q 6 s.heap [] 0 0 5 [(0, .ref b), (1, .int (zI k)), (2, .int (zI w)), (3, .int (zI f))] [.int (zI (bz (0 ≤ k ∧ k < co 0 0)))]
  refine v_bif_eq X dX10_asks_5 8 16 rfl (by decide) (fun c_1 => ?_) (fun c_1 => ?_)
  · skip
    exfalso; omega
  · skip
    refine v_aload_n X dX10_asks_8 9 rfl 0 rfl ?_
    refine v_iload_n X dX10_asks_9 10 rfl 2 rfl ?_
    refine v_rdV X hM.C h_mo.1 (c_X10_isWitness l E b mo co w hO hR gw) kvX10_isWitness kiX10_isWitness kl_X10_95 rfl rfl (As := [.int (zI w)]) rfl rfl rfl dX10_asks_10 13 rfl ?_
    show V p l e (rmL 2 0 0) s m args below meth cd Q 6 s.heap [] 0 0 13 [(0, .ref b), (1, .int (zI k)), (2, .int (zI w)), (3, .int (zI f))] [.int (zI (bz (0 ≤ w ∧ w < co 0 1)))]
    refine v_bif_ne X dX10_asks_13 16 18 rfl (by decide) (fun c_2 => ?_) (fun c_2 => ?_)
    · skip
      refine v_aload_n X dX10_asks_18 19 rfl 0 rfl ?_
      refine v_iload_n X dX10_asks_19 20 rfl 1 rfl ?_
      refine v_iload_n X dX10_asks_20 21 rfl 2 rfl ?_
      have hb_3 := hO.b0
      refine v_rdV X hM.C h_mo.1 (c_X10_spokenBy l E b mo co k w hO hR (by omega) (by omega) gw) kvX10_spokenBy kiX10_spokenBy kl_X10_98 rfl rfl (As := [.int (zI k), .int (zI w)]) rfl rfl rfl dX10_asks_21 24 rfl ?_
      show V p l e (rmL 2 0 0) s m args below meth cd Q 6 s.heap [] 0 0 24 [(0, .ref b), (1, .int (zI k)), (2, .int (zI w)), (3, .int (zI f))] [.int (zI (swC co k w))]
      have hf_4 := swC_b hO k w
      refine v_istore X dX10_asks_24 26 rfl (by decide) (L' := [(4, .int (zI (swC co k w))), (0, .ref b), (1, .int (zI k)), (2, .int (zI w)), (3, .int (zI f))]) rfl ?_
      refine v_iload X dX10_asks_26 28 rfl 0 rfl ?_
      refine v_if_ge X (by omega) dX10_asks_28 31 33 rfl (by decide) (fun c_5 => ?_) (fun c_5 => ?_)
      · skip
        refine v_aload_n X dX10_asks_33 34 rfl 1 rfl ?_
        refine v_iload_n X dX10_asks_34 35 rfl 2 rfl ?_
        refine v_iconst X dX10_asks_35 36 rfl ?_
        refine v_rdV X hM.C h_mo.1 (c_X10_c_2 l E b mo co k hO hR (by omega) (by omega)) kvX10_c kiX10_c kl_X10_47 rfl rfl (As := [.int (zI k), .int (zI 2)]) rfl rfl rfl dX10_asks_36 39 rfl ?_
        show V p l e (rmL 2 0 0) s m args below meth cd Q 6 s.heap [] 0 0 39 [(4, .int (zI (swC co k w))), (0, .ref b), (1, .int (zI k)), (2, .int (zI w)), (3, .int (zI f))] [.int (zI (co 3 k))]
        have hb_6 := hO.b3 k
        refine v_if_ne X (by omega) dX10_asks_39 42 54 rfl (by decide) (fun c_7 => ?_) (fun c_7 => ?_)
        · skip
          refine v_iconst X dX10_asks_54 55 rfl ?_
          subst hQ; exact m_iret X hr hlk hM dX10_asks_55 rfl rfl
        · skip
          refine v_aload_n X dX10_asks_42 43 rfl 1 rfl ?_
          refine v_iload_n X dX10_asks_43 44 rfl 2 rfl ?_
          refine v_iload X dX10_asks_44 46 rfl 0 rfl ?_
          refine v_iconst X dX10_asks_46 47 rfl ?_
          have hb_8 := hO.b6 k
          refine v_rdV X hM.C h_mo.1 (c_X10_t_3 l E b mo co k (swC co k w) hO hR (by omega) (by omega) (by omega) (by omega)) kvX10_t kiX10_t kl_X10_51 rfl rfl (As := [.int (zI k), .int (zI (swC co k w)), .int (zI 3)]) rfl rfl rfl dX10_asks_47 50 rfl ?_
          show V p l e (rmL 2 0 0) s m args below meth cd Q 6 s.heap [] 0 0 50 [(4, .int (zI (swC co k w))), (0, .ref b), (1, .int (zI k)), (2, .int (zI w)), (3, .int (zI f))] [.int (zI (co 10 (k * 8 + co 7 (k * 6 + (swC co k w)))))]
          have hb_9 := hO.b10 (k * 8 + co 7 (k * 6 + (swC co k w)))
          have hb_10 := hO.b7 (k * 6 + (swC co k w))
          refine V_S (st' := [.int (zI (co 10 (k * 8 + w)))]) (by rw [swC_at (co := co) (k := k) (w := w) (by omega)]) ?_
          refine v_iconst X dX10_asks_50 51 rfl ?_
          have hb_12 := hO.b10 (k * 8 + w)
          refine v_icmp_ne X (by omega) (by omega) dX10_asks_51 54 56 rfl (by decide) (fun c_11 => ?_) (fun c_11 => ?_)
          · skip
            exfalso; omega
          · skip
            refine v_iconst X dX10_asks_54 55 rfl ?_
            subst hQ; exact m_iret X hr hlk hM dX10_asks_55 rfl rfl
      · skip
        exfalso; omega
    · skip
      exfalso; omega
set_option maxHeartbeats 4000000 in
set_option maxRecDepth 20000 in
theorem c_X10_decides_f1 (l : Launch) (E : Nat → Nat → Nat) (b : Nat) (mo : Nat → Int → Int) (co : Nat → Int → Int) (k : Int) (hO : OkC co) (hR : RelC co (mo 1)) (hI : TsI co) (gk : Rg k) (hf : flC co 4 k 0 0 = 1) : Mu l yX10_decides cX10_decides 2 (some .int) 2 0 0 E [] [.ref b, .int (zI k)] (fun H => PR E b (modelW E b mo) H) (fun rv H => rv = some (.int (zI 1))) := by
  refine Mu.start (own := RX10) rfl (by decide +kernel) (Nat.le_of_ble_eq_true rfl) ?_
  intro p e s m below meth cd args Q hQ X hr hlk hnm hM hPr
  have h_mo := hPr
  have hb0 := hO.b0
  have hbw := hO.bw
  have hr0 := hR.s0
  have hr1 := hR.s1
  have hq := flC_4_1 hf
  refine v_aload_n X dX10_decides_0 1 rfl 0 rfl ?_
  refine v_iload_n X dX10_decides_1 2 rfl 1 rfl ?_
  refine v_rdV X hM.C h_mo.1 (c_X10_isCase l E b mo co k hO hR gk) kvX10_isCase kiX10_isCase kl_X10_92 rfl rfl (As := [.int (zI k)]) rfl rfl rfl dX10_decides_2 5 rfl ?_
  show V p l e (rmL 2 0 0) s m args below meth cd Q 2 s.heap [] 0 0 5 [(0, .ref b), (1, .int (zI k))] [.int (zI (bz (0 ≤ k ∧ k < co 0 0)))]
  refine v_bif_ne X dX10_decides_5 8 10 rfl (by decide) (fun c_1 => ?_) (fun c_1 => ?_)
  · skip
    exfalso; omega
  · skip
    refine v_iconst X dX10_decides_8 9 rfl ?_
    subst hQ; exact m_iret X hr hlk hM dX10_decides_9 rfl rfl
set_option maxHeartbeats 4000000 in
set_option maxRecDepth 20000 in
theorem c_X10_decides_f4 (l : Launch) (E : Nat → Nat → Nat) (b : Nat) (mo : Nat → Int → Int) (co : Nat → Int → Int) (k : Int) (hO : OkC co) (hR : RelC co (mo 1)) (hI : TsI co) (gk : Rg k) (hf : flC co 4 k 0 0 = 4) : Mu l yX10_decides cX10_decides 2 (some .int) 2 0 0 E [] [.ref b, .int (zI k)] (fun H => PR E b (modelW E b mo) H) (fun rv H => rv = some (.int (zI 4))) := by
  refine Mu.start (own := RX10) rfl (by decide +kernel) (Nat.le_of_ble_eq_true rfl) ?_
  intro p e s m below meth cd args Q hQ X hr hlk hnm hM hPr
  have h_mo := hPr
  have hb0 := hO.b0
  have hbw := hO.bw
  have hr0 := hR.s0
  have hr1 := hR.s1
  have hq := flC_4_4 hf
  refine v_aload_n X dX10_decides_0 1 rfl 0 rfl ?_
  refine v_iload_n X dX10_decides_1 2 rfl 1 rfl ?_
  refine v_rdV X hM.C h_mo.1 (c_X10_isCase l E b mo co k hO hR gk) kvX10_isCase kiX10_isCase kl_X10_92 rfl rfl (As := [.int (zI k)]) rfl rfl rfl dX10_decides_2 5 rfl ?_
  show V p l e (rmL 2 0 0) s m args below meth cd Q 2 s.heap [] 0 0 5 [(0, .ref b), (1, .int (zI k))] [.int (zI (bz (0 ≤ k ∧ k < co 0 0)))]
  refine v_bif_ne X dX10_decides_5 8 10 rfl (by decide) (fun c_1 => ?_) (fun c_1 => ?_)
  · skip
    refine v_aload_n X dX10_decides_10 11 rfl 0 rfl ?_
    refine v_iload_n X dX10_decides_11 12 rfl 1 rfl ?_
    refine v_iconst X dX10_decides_12 13 rfl ?_
    have hb_2 := hO.b0
    refine v_rdV X hM.C h_mo.1 (c_X10_c_2 l E b mo co k hO hR (by omega) (by omega)) kvX10_c kiX10_c kl_X10_47 rfl rfl (As := [.int (zI k), .int (zI 2)]) rfl rfl rfl dX10_decides_13 16 rfl ?_
    show V p l e (rmL 2 0 0) s m args below meth cd Q 2 s.heap [] 0 0 16 [(0, .ref b), (1, .int (zI k))] [.int (zI (co 3 k))]
    have hb_3 := hO.b3 k
    refine v_if_ne X (by omega) dX10_decides_16 19 28 rfl (by decide) (fun c_4 => ?_) (fun c_4 => ?_)
    · skip
      refine v_iconst X dX10_decides_28 29 rfl ?_
      subst hQ; exact m_iret X hr hlk hM dX10_decides_29 rfl rfl
    · skip
      refine v_aload_n X dX10_decides_19 20 rfl 0 rfl ?_
      refine v_iload_n X dX10_decides_20 21 rfl 1 rfl ?_
      refine v_iconst X dX10_decides_21 22 rfl ?_
      refine v_rdV X hM.C h_mo.1 (c_X10_c_5 l E b mo co k hO hR (by omega) (by omega)) kvX10_c kiX10_c kl_X10_47 rfl rfl (As := [.int (zI k), .int (zI 5)]) rfl rfl rfl dX10_decides_22 25 rfl ?_
      show V p l e (rmL 2 0 0) s m args below meth cd Q 2 s.heap [] 0 0 25 [(0, .ref b), (1, .int (zI k))] [.int (zI (co 6 k))]
      have hb_5 := hO.b6 k
      refine v_if_ne X (by omega) dX10_decides_25 28 30 rfl (by decide) (fun c_6 => ?_) (fun c_6 => ?_)
      · skip
        exfalso; omega
      · skip
        refine v_iconst X dX10_decides_28 29 rfl ?_
        subst hQ; exact m_iret X hr hlk hM dX10_decides_29 rfl rfl
  · skip
    exfalso; omega
set_option maxHeartbeats 4000000 in
set_option maxRecDepth 20000 in
theorem c_X10_appeals_f1 (l : Launch) (E : Nat → Nat → Nat) (b : Nat) (mo : Nat → Int → Int) (co : Nat → Int → Int) (k : Int) (hO : OkC co) (hR : RelC co (mo 1)) (hI : TsI co) (gk : Rg k) (hf : flC co 5 k 0 0 = 1) : Mu l yX10_appeals cX10_appeals 2 (some .int) 2 0 0 E [] [.ref b, .int (zI k)] (fun H => PR E b (modelW E b mo) H) (fun rv H => rv = some (.int (zI 1))) := by
  refine Mu.start (own := RX10) rfl (by decide +kernel) (Nat.le_of_ble_eq_true rfl) ?_
  intro p e s m below meth cd args Q hQ X hr hlk hnm hM hPr
  have h_mo := hPr
  have hb0 := hO.b0
  have hbw := hO.bw
  have hr0 := hR.s0
  have hr1 := hR.s1
  have hq := flC_5_1 hf
  refine v_aload_n X dX10_appeals_0 1 rfl 0 rfl ?_
  refine v_iload_n X dX10_appeals_1 2 rfl 1 rfl ?_
  refine v_rdV X hM.C h_mo.1 (c_X10_isCase l E b mo co k hO hR gk) kvX10_isCase kiX10_isCase kl_X10_92 rfl rfl (As := [.int (zI k)]) rfl rfl rfl dX10_appeals_2 5 rfl ?_
  show V p l e (rmL 2 0 0) s m args below meth cd Q 2 s.heap [] 0 0 5 [(0, .ref b), (1, .int (zI k))] [.int (zI (bz (0 ≤ k ∧ k < co 0 0)))]
  refine v_bif_ne X dX10_appeals_5 8 10 rfl (by decide) (fun c_1 => ?_) (fun c_1 => ?_)
  · skip
    exfalso; omega
  · skip
    refine v_iconst X dX10_appeals_8 9 rfl ?_
    subst hQ; exact m_iret X hr hlk hM dX10_appeals_9 rfl rfl
set_option maxHeartbeats 4000000 in
set_option maxRecDepth 20000 in
theorem c_X10_appeals_f4 (l : Launch) (E : Nat → Nat → Nat) (b : Nat) (mo : Nat → Int → Int) (co : Nat → Int → Int) (k : Int) (hO : OkC co) (hR : RelC co (mo 1)) (hI : TsI co) (gk : Rg k) (hf : flC co 5 k 0 0 = 4) : Mu l yX10_appeals cX10_appeals 2 (some .int) 2 0 0 E [] [.ref b, .int (zI k)] (fun H => PR E b (modelW E b mo) H) (fun rv H => rv = some (.int (zI 4))) := by
  refine Mu.start (own := RX10) rfl (by decide +kernel) (Nat.le_of_ble_eq_true rfl) ?_
  intro p e s m below meth cd args Q hQ X hr hlk hnm hM hPr
  have h_mo := hPr
  have hb0 := hO.b0
  have hbw := hO.bw
  have hr0 := hR.s0
  have hr1 := hR.s1
  have hq := flC_5_4 hf
  refine v_aload_n X dX10_appeals_0 1 rfl 0 rfl ?_
  refine v_iload_n X dX10_appeals_1 2 rfl 1 rfl ?_
  refine v_rdV X hM.C h_mo.1 (c_X10_isCase l E b mo co k hO hR gk) kvX10_isCase kiX10_isCase kl_X10_92 rfl rfl (As := [.int (zI k)]) rfl rfl rfl dX10_appeals_2 5 rfl ?_
  show V p l e (rmL 2 0 0) s m args below meth cd Q 2 s.heap [] 0 0 5 [(0, .ref b), (1, .int (zI k))] [.int (zI (bz (0 ≤ k ∧ k < co 0 0)))]
  refine v_bif_ne X dX10_appeals_5 8 10 rfl (by decide) (fun c_1 => ?_) (fun c_1 => ?_)
  · skip
    refine v_aload_n X dX10_appeals_10 11 rfl 0 rfl ?_
    refine v_iload_n X dX10_appeals_11 12 rfl 1 rfl ?_
    refine v_iconst X dX10_appeals_12 13 rfl ?_
    have hb_2 := hO.b0
    refine v_rdV X hM.C h_mo.1 (c_X10_c_2 l E b mo co k hO hR (by omega) (by omega)) kvX10_c kiX10_c kl_X10_47 rfl rfl (As := [.int (zI k), .int (zI 2)]) rfl rfl rfl dX10_appeals_13 16 rfl ?_
    show V p l e (rmL 2 0 0) s m args below meth cd Q 2 s.heap [] 0 0 16 [(0, .ref b), (1, .int (zI k))] [.int (zI (co 3 k))]
    have hb_3 := hO.b3 k
    refine v_iconst X dX10_appeals_16 17 rfl ?_
    refine v_icmp_eq X (by omega) (by omega) dX10_appeals_17 20 22 rfl (by decide) (fun c_4 => ?_) (fun c_4 => ?_)
    · skip
      exfalso; omega
    · skip
      refine v_iconst X dX10_appeals_20 21 rfl ?_
      subst hQ; exact m_iret X hr hlk hM dX10_appeals_21 rfl rfl
  · skip
    exfalso; omega
set_option maxHeartbeats 4000000 in
set_option maxRecDepth 20000 in
theorem c_X10_closes_f1 (l : Launch) (E : Nat → Nat → Nat) (b : Nat) (mo : Nat → Int → Int) (co : Nat → Int → Int) (k : Int) (hO : OkC co) (hR : RelC co (mo 1)) (hI : TsI co) (gk : Rg k) (hf : flC co 6 k 0 0 = 1) : Mu l yX10_closes cX10_closes 2 (some .int) 2 0 0 E [] [.ref b, .int (zI k)] (fun H => PR E b (modelW E b mo) H) (fun rv H => rv = some (.int (zI 1))) := by
  refine Mu.start (own := RX10) rfl (by decide +kernel) (Nat.le_of_ble_eq_true rfl) ?_
  intro p e s m below meth cd args Q hQ X hr hlk hnm hM hPr
  have h_mo := hPr
  have hb0 := hO.b0
  have hbw := hO.bw
  have hr0 := hR.s0
  have hr1 := hR.s1
  have hq := flC_6_1 hf
  refine v_aload_n X dX10_closes_0 1 rfl 0 rfl ?_
  refine v_iload_n X dX10_closes_1 2 rfl 1 rfl ?_
  refine v_rdV X hM.C h_mo.1 (c_X10_isCase l E b mo co k hO hR gk) kvX10_isCase kiX10_isCase kl_X10_92 rfl rfl (As := [.int (zI k)]) rfl rfl rfl dX10_closes_2 5 rfl ?_
  show V p l e (rmL 2 0 0) s m args below meth cd Q 2 s.heap [] 0 0 5 [(0, .ref b), (1, .int (zI k))] [.int (zI (bz (0 ≤ k ∧ k < co 0 0)))]
  refine v_bif_ne X dX10_closes_5 8 10 rfl (by decide) (fun c_1 => ?_) (fun c_1 => ?_)
  · skip
    exfalso; omega
  · skip
    refine v_iconst X dX10_closes_8 9 rfl ?_
    subst hQ; exact m_iret X hr hlk hM dX10_closes_9 rfl rfl
set_option maxHeartbeats 4000000 in
set_option maxRecDepth 20000 in
theorem c_X10_closes_f4 (l : Launch) (E : Nat → Nat → Nat) (b : Nat) (mo : Nat → Int → Int) (co : Nat → Int → Int) (k : Int) (hO : OkC co) (hR : RelC co (mo 1)) (hI : TsI co) (gk : Rg k) (hf : flC co 6 k 0 0 = 4) : Mu l yX10_closes cX10_closes 2 (some .int) 2 0 0 E [] [.ref b, .int (zI k)] (fun H => PR E b (modelW E b mo) H) (fun rv H => rv = some (.int (zI 4))) := by
  refine Mu.start (own := RX10) rfl (by decide +kernel) (Nat.le_of_ble_eq_true rfl) ?_
  intro p e s m below meth cd args Q hQ X hr hlk hnm hM hPr
  have h_mo := hPr
  have hb0 := hO.b0
  have hbw := hO.bw
  have hr0 := hR.s0
  have hr1 := hR.s1
  have hq := flC_6_4 hf
  refine v_aload_n X dX10_closes_0 1 rfl 0 rfl ?_
  refine v_iload_n X dX10_closes_1 2 rfl 1 rfl ?_
  refine v_rdV X hM.C h_mo.1 (c_X10_isCase l E b mo co k hO hR gk) kvX10_isCase kiX10_isCase kl_X10_92 rfl rfl (As := [.int (zI k)]) rfl rfl rfl dX10_closes_2 5 rfl ?_
  show V p l e (rmL 2 0 0) s m args below meth cd Q 2 s.heap [] 0 0 5 [(0, .ref b), (1, .int (zI k))] [.int (zI (bz (0 ≤ k ∧ k < co 0 0)))]
  refine v_bif_ne X dX10_closes_5 8 10 rfl (by decide) (fun c_1 => ?_) (fun c_1 => ?_)
  · skip
    refine v_aload_n X dX10_closes_10 11 rfl 0 rfl ?_
    refine v_iload_n X dX10_closes_11 12 rfl 1 rfl ?_
    refine v_iconst X dX10_closes_12 13 rfl ?_
    have hb_2 := hO.b0
    refine v_rdV X hM.C h_mo.1 (c_X10_c_2 l E b mo co k hO hR (by omega) (by omega)) kvX10_c kiX10_c kl_X10_47 rfl rfl (As := [.int (zI k), .int (zI 2)]) rfl rfl rfl dX10_closes_13 16 rfl ?_
    show V p l e (rmL 2 0 0) s m args below meth cd Q 2 s.heap [] 0 0 16 [(0, .ref b), (1, .int (zI k))] [.int (zI (co 3 k))]
    have hb_3 := hO.b3 k
    refine v_iconst X dX10_closes_16 17 rfl ?_
    refine v_icmp_eq X (by omega) (by omega) dX10_closes_17 20 22 rfl (by decide) (fun c_4 => ?_) (fun c_4 => ?_)
    · skip
      exfalso; omega
    · skip
      refine v_iconst X dX10_closes_20 21 rfl ?_
      subst hQ; exact m_iret X hr hlk hM dX10_closes_21 rfl rfl
  · skip
    exfalso; omega
