theorem wsa1 {z : Int} (h : z = 1 ∨ z = -1) (c : bz (0 < z) = 1) : z = 1 := by
  rcases h with h | h
  · exact h
  · rw [bz_f (by omega)] at c
    omega
theorem wsa2 {z : Int} (h : z = 1 ∨ z = -1) (c : ¬ bz (0 < z) = 1) : ¬ z = 1 := by
  intro q
  exact c (bz_t (by omega))
theorem wsa3 {z : Int} (h : z = 1 ∨ z = -1) (c : bz (0 < z) = 0) : z = -1 := by
  rcases h with h | h
  · rw [bz_t (by omega)] at c
    omega
  · exact h
theorem wsa4 {z : Int} (h : z = 1 ∨ z = -1) (c : ¬ bz (0 < z) = 0) : ¬ z = -1 := by
  intro q
  exact c (bz_f (by omega))
set_option maxHeartbeats 4000000 in
set_option maxRecDepth 20000 in
theorem c_L_weight1 (l : Launch) (E : Nat → Nat → Nat) (x : Nat) (co : Nat → Int → Int) (k : Int) (hO : OkC co) (hT : TsI co) (gk : Rg k) (k0 : 0 ≤ k ∧ k < co 0 0) : Rd l yL_weight cL_weight 6 (some .int) 4 E [.ref x, .int (zI k), .int (zI 1)] ([(x, .inr (11, [.ref (x + 1), .ref (x + 29), .ref (x + 57), .ref (x + 85), .ref (x + 311), .ref (x + 314), .ref (x + 319), .ref (x + 332), .int (zI 0), .int (zI (-1)), .int (zI (-1)), .int (zI 0)]))] ++ courtW E (x + 1) co) (some (.int (zI (wsC co k 1)))) := by
  refine Rd.start (own := RL) rfl (by decide +kernel) (Nat.le_of_ble_eq_true rfl) ?_
  intro p e s m below meth cd args Q hQ X hr hlk hC hP
  have h_co := PW.right hP
  have h_cm := (PW.left hP)
  have hb0 := hO.b0
  have hbw := hO.bw
  have hb6 := hO.b6 k
  refine v_iconst X dL_weight_0 1 rfl ?_
  refine v_istore_n X dL_weight_1 2 rfl rfl (by decide) (L' := [(3, .int (zI 0)), (0, .ref x), (1, .int (zI k)), (2, .int (zI 1))]) rfl ?_
  refine v_iconst X dL_weight_2 3 rfl ?_
  refine v_istore X dL_weight_3 5 rfl (by decide) (L' := [(4, .int (zI 0)), (3, .int (zI 0)), (0, .ref x), (1, .int (zI k)), (2, .int (zI 1))]) rfl ?_
  refine V_L (L' := [(4, .int (zI 0)), (3, .int (zI (sumZ (fun j => if sdC co k j = 1 then wtC co k j else 0) 0))), (0, .ref x), (1, .int (zI k)), (2, .int (zI 1))]) (LC rfl (LC (vz (by rfl)) (LC rfl (LC rfl (LC rfl rfl))))) ?_
  refine up_loop ((co 6 k).toNat) (P := fun (i : Nat) => V p l e (rmL 4 0 0) s m args below meth cd Q 6 s.heap [] 0 0 5 [(4, .int (zI (i : Int))), (3, .int (zI (sumZ (fun j => if sdC co k j = 1 then wtC co k j else 0) i))), (0, .ref x), (1, .int (zI k)), (2, .int (zI 1))] []) (fun i hi_i ih_i => ?_)
  refine v_iload X dL_weight_5 7 rfl 0 rfl ?_
  refine v_aload_n X dL_weight_7 8 rfl 2 rfl ?_
  refine v_iload_n X dL_weight_8 9 rfl 3 rfl ?_
  refine v_rdV X hC (PW.app h_cm h_co) (c_X9_testimonyCount l E x co 0 (-1) (-1) 0 k hO gk k0) kvX9_testimonyCount kiX9_testimonyCount kl_L_109 rfl rfl (As := [.int (zI k)]) rfl rfl rfl dL_weight_9 12 rfl ?_
  show V p l e (rmL 4 0 0) s m args below meth cd Q 6 s.heap [] 0 0 12 [(4, .int (zI (i : Int))), (3, .int (zI (sumZ (fun j => if sdC co k j = 1 then wtC co k j else 0) i))), (0, .ref x), (1, .int (zI k)), (2, .int (zI 1))] [.int (zI (co 6 k)), .int (zI (i : Int))]
  have hb_1 := hO.b6 k
  refine v_icmp_ge X (by omega) (by omega) dL_weight_12 15 62 rfl (by decide) (fun c_2 => ?_) (fun c_2 => ?_)
  · skip
    refine v_iload_n X dL_weight_62 63 rfl 1 rfl ?_
    subst hQ; exact v_iret0 X hr hlk dL_weight_63 (by rw [show i = (co 6 k).toNat by omega]; rfl)
  · skip
    have ht := hT.a k0.1 k0.2 (show (0 : Int) ≤ (i : Int) by omega) (show (i : Int) < co 6 k by omega)
    have hsd := hT.sd k0.1 k0.2 (show (0 : Int) ≤ (i : Int) by omega) (show (i : Int) < co 6 k by omega)
    have hb7 := hO.b7 (k * 6 + (i : Int))
    refine v_aload_n X dL_weight_15 16 rfl 2 rfl ?_
    refine v_iload_n X dL_weight_16 17 rfl 3 rfl ?_
    refine v_iload X dL_weight_17 19 rfl 0 rfl ?_
    refine v_rdV X hC (PW.app h_cm h_co) (c_X9_witnessAt l E x co 0 (-1) (-1) 0 k (i : Int) hO gk (by omega) k0 (by omega)) kvX9_witnessAt kiX9_witnessAt kl_L_45 rfl rfl (As := [.int (zI k), .int (zI (i : Int))]) rfl rfl rfl dL_weight_19 22 rfl ?_
    show V p l e (rmL 4 0 0) s m args below meth cd Q 6 s.heap [] 0 0 22 [(4, .int (zI (i : Int))), (3, .int (zI (sumZ (fun j => if sdC co k j = 1 then wtC co k j else 0) i))), (0, .ref x), (1, .int (zI k)), (2, .int (zI 1))] [.int (zI (co 7 (k * 6 + (i : Int))))]
    have hb_3 := hO.b7 (k * 6 + (i : Int))
    refine v_istore X dL_weight_22 24 rfl (by decide) (L' := [(5, .int (zI (co 7 (k * 6 + (i : Int))))), (4, .int (zI (i : Int))), (3, .int (zI (sumZ (fun j => if sdC co k j = 1 then wtC co k j else 0) i))), (0, .ref x), (1, .int (zI k)), (2, .int (zI 1))]) rfl ?_
    refine v_iload_n X dL_weight_24 25 rfl 2 rfl ?_
    refine v_aload_n X dL_weight_25 26 rfl 3 rfl ?_
    refine v_iload_n X dL_weight_26 27 rfl 4 rfl ?_
    refine v_iload X dL_weight_27 29 rfl 0 rfl ?_
    have hb_4 := hO.bw
    have hb_5 := hO.b9 (k * 8 + (co 7 (k * 6 + (i : Int))))
    refine v_rdV X hC (PW.app h_cm h_co) (c_X9_isForProsecution l E x co 0 (-1) (-1) 0 k (co 7 (k * 6 + (i : Int))) hO gk (by omega) k0 (by omega) (by omega)) kvX9_isForProsecution kiX9_isForProsecution kl_L_112 rfl rfl (As := [.int (zI k), .int (zI (co 7 (k * 6 + (i : Int))))]) rfl rfl rfl dL_weight_29 32 rfl ?_
    show V p l e (rmL 4 0 0) s m args below meth cd Q 6 s.heap [] 0 0 32 [(5, .int (zI (co 7 (k * 6 + (i : Int))))), (4, .int (zI (i : Int))), (3, .int (zI (sumZ (fun j => if sdC co k j = 1 then wtC co k j else 0) i))), (0, .ref x), (1, .int (zI k)), (2, .int (zI 1))] [.int (zI (bz (0 < co 8 (k * 8 + (co 7 (k * 6 + (i : Int))))))), .int (zI (sumZ (fun j => if sdC co k j = 1 then wtC co k j else 0) i))]
    refine v_iload_n X dL_weight_32 33 rfl 5 rfl ?_
    have hb_7 := hO.b8 (k * 8 + (co 7 (k * 6 + (i : Int))))
    refine v_icmp_ne X (by have := bz_rg (φ := 0 < co 8 (k * 8 + (co 7 (k * 6 + (i : Int))))); omega) (by omega) dL_weight_33 36 53 rfl (by decide) (fun c_6 => ?_) (fun c_6 => ?_)
    · skip
      refine v_iconst X dL_weight_53 54 rfl ?_
      refine v_iadd X dL_weight_54 55 rfl ?_
      refine v_istore_n X dL_weight_55 56 rfl rfl (by decide) (L' := [(3, .int (zI (sumZ (fun j => if sdC co k j = 1 then wtC co k j else 0) i + 0))), (5, .int (zI (co 7 (k * 6 + (i : Int))))), (4, .int (zI (i : Int))), (0, .ref x), (1, .int (zI k)), (2, .int (zI 1))]) rfl ?_
      refine v_iinc X dL_weight_56 59 rfl 2 rfl (by decide) (L' := [(4, .int (zI ((i : Int) + 1))), (3, .int (zI (sumZ (fun j => if sdC co k j = 1 then wtC co k j else 0) i + 0))), (5, .int (zI (co 7 (k * 6 + (i : Int))))), (0, .ref x), (1, .int (zI k)), (2, .int (zI 1))]) rfl ?_
      refine v_goto X dL_weight_59 5 (by decide) ?_
      refine v_locals [0, 1, 3, 4, 5] (L' := [(4, .int (zI ((i : Int) + 1))), (3, .int (zI (sumZ (fun j => if sdC co k j = 1 then wtC co k j else 0) i + 0))), (0, .ref x), (1, .int (zI k)), (2, .int (zI 1))]) rfl ?_
      exact V_L (L' := [(4, .int (zI ((i + 1 : Nat) : Int))), (3, .int (zI (sumZ (fun j => if sdC co k j = 1 then wtC co k j else 0) (i + 1)))), (0, .ref x), (1, .int (zI k)), (2, .int (zI 1))]) (LC (vz (by omega)) (LC (vz (by rw [sumZ_s]; first | (rw [if_pos (wsa1 hsd (by assumption))]; rfl) | (rw [if_neg (wsa2 hsd (by assumption))]))) (LC rfl (LC rfl (LC rfl rfl))))) (ih_i (by omega))
    · skip
      refine v_aload_n X dL_weight_36 37 rfl 3 rfl ?_
      refine v_iload_n X dL_weight_37 38 rfl 4 rfl ?_
      refine v_iload X dL_weight_38 40 rfl 0 rfl ?_
      refine v_rdV X hC (PW.app h_cm h_co) (c_X9_strength l E x co 0 (-1) (-1) 0 k (co 7 (k * 6 + (i : Int))) hO gk (by omega) k0 (by omega) (by omega)) kvX9_strength kiX9_strength kl_L_116 rfl rfl (As := [.int (zI k), .int (zI (co 7 (k * 6 + (i : Int))))]) rfl rfl rfl dL_weight_40 43 rfl ?_
      show V p l e (rmL 4 0 0) s m args below meth cd Q 6 s.heap [] 0 0 43 [(5, .int (zI (co 7 (k * 6 + (i : Int))))), (4, .int (zI (i : Int))), (3, .int (zI (sumZ (fun j => if sdC co k j = 1 then wtC co k j else 0) i))), (0, .ref x), (1, .int (zI k)), (2, .int (zI 1))] [.int (zI (co 9 (k * 8 + (co 7 (k * 6 + (i : Int)))))), .int (zI (sumZ (fun j => if sdC co k j = 1 then wtC co k j else 0) i))]
      refine v_aload_n X dL_weight_43 44 rfl 3 rfl ?_
      refine v_iload X dL_weight_44 46 rfl 0 rfl ?_
      refine v_rdV X hC (PW.app h_cm h_co) (c_X9_credibility l E x co 0 (-1) (-1) 0 (co 7 (k * 6 + (i : Int))) hO (by omega) (by omega)) kvX9_credibility kiX9_credibility kl_L_119 rfl rfl (As := [.int (zI (co 7 (k * 6 + (i : Int))))]) rfl rfl rfl dL_weight_46 49 rfl ?_
      show V p l e (rmL 4 0 0) s m args below meth cd Q 6 s.heap [] 0 0 49 [(5, .int (zI (co 7 (k * 6 + (i : Int))))), (4, .int (zI (i : Int))), (3, .int (zI (sumZ (fun j => if sdC co k j = 1 then wtC co k j else 0) i))), (0, .ref x), (1, .int (zI k)), (2, .int (zI 1))] [.int (zI (co 11 (co 7 (k * 6 + (i : Int))))), .int (zI (co 9 (k * 8 + (co 7 (k * 6 + (i : Int)))))), .int (zI (sumZ (fun j => if sdC co k j = 1 then wtC co k j else 0) i))]
      have hb_8 := hO.b11 (co 7 (k * 6 + (i : Int)))
      refine v_imul X dL_weight_49 50 rfl ?_
      refine v_goto X dL_weight_50 54 (by decide) ?_
      refine v_iadd X dL_weight_54 55 rfl ?_
      refine v_istore_n X dL_weight_55 56 rfl rfl (by decide) (L' := [(3, .int (zI (sumZ (fun j => if sdC co k j = 1 then wtC co k j else 0) i + ((co 9 (k * 8 + (co 7 (k * 6 + (i : Int))))) * (co 11 (co 7 (k * 6 + (i : Int)))))))), (5, .int (zI (co 7 (k * 6 + (i : Int))))), (4, .int (zI (i : Int))), (0, .ref x), (1, .int (zI k)), (2, .int (zI 1))]) rfl ?_
      refine v_iinc X dL_weight_56 59 rfl 2 rfl (by decide) (L' := [(4, .int (zI ((i : Int) + 1))), (3, .int (zI (sumZ (fun j => if sdC co k j = 1 then wtC co k j else 0) i + ((co 9 (k * 8 + (co 7 (k * 6 + (i : Int))))) * (co 11 (co 7 (k * 6 + (i : Int)))))))), (5, .int (zI (co 7 (k * 6 + (i : Int))))), (0, .ref x), (1, .int (zI k)), (2, .int (zI 1))]) rfl ?_
      refine v_goto X dL_weight_59 5 (by decide) ?_
      refine v_locals [0, 1, 3, 4, 5] (L' := [(4, .int (zI ((i : Int) + 1))), (3, .int (zI (sumZ (fun j => if sdC co k j = 1 then wtC co k j else 0) i + ((co 9 (k * 8 + (co 7 (k * 6 + (i : Int))))) * (co 11 (co 7 (k * 6 + (i : Int)))))))), (0, .ref x), (1, .int (zI k)), (2, .int (zI 1))]) rfl ?_
      exact V_L (L' := [(4, .int (zI ((i + 1 : Nat) : Int))), (3, .int (zI (sumZ (fun j => if sdC co k j = 1 then wtC co k j else 0) (i + 1)))), (0, .ref x), (1, .int (zI k)), (2, .int (zI 1))]) (LC (vz (by omega)) (LC (vz (by rw [sumZ_s]; first | (rw [if_pos (wsa1 hsd (by assumption))]; rfl) | (rw [if_neg (wsa2 hsd (by assumption))]))) (LC rfl (LC rfl (LC rfl rfl))))) (ih_i (by omega))
set_option maxHeartbeats 4000000 in
set_option maxRecDepth 20000 in
theorem c_L_weight0 (l : Launch) (E : Nat → Nat → Nat) (x : Nat) (co : Nat → Int → Int) (k : Int) (hO : OkC co) (hT : TsI co) (gk : Rg k) (k0 : 0 ≤ k ∧ k < co 0 0) : Rd l yL_weight cL_weight 6 (some .int) 4 E [.ref x, .int (zI k), .int (zI 0)] ([(x, .inr (11, [.ref (x + 1), .ref (x + 29), .ref (x + 57), .ref (x + 85), .ref (x + 311), .ref (x + 314), .ref (x + 319), .ref (x + 332), .int (zI 0), .int (zI (-1)), .int (zI (-1)), .int (zI 0)]))] ++ courtW E (x + 1) co) (some (.int (zI (wsC co k (-1))))) := by
  refine Rd.start (own := RL) rfl (by decide +kernel) (Nat.le_of_ble_eq_true rfl) ?_
  intro p e s m below meth cd args Q hQ X hr hlk hC hP
  have h_co := PW.right hP
  have h_cm := (PW.left hP)
  have hb0 := hO.b0
  have hbw := hO.bw
  have hb6 := hO.b6 k
  refine v_iconst X dL_weight_0 1 rfl ?_
  refine v_istore_n X dL_weight_1 2 rfl rfl (by decide) (L' := [(3, .int (zI 0)), (0, .ref x), (1, .int (zI k)), (2, .int (zI 0))]) rfl ?_
  refine v_iconst X dL_weight_2 3 rfl ?_
  refine v_istore X dL_weight_3 5 rfl (by decide) (L' := [(4, .int (zI 0)), (3, .int (zI 0)), (0, .ref x), (1, .int (zI k)), (2, .int (zI 0))]) rfl ?_
  refine V_L (L' := [(4, .int (zI 0)), (3, .int (zI (sumZ (fun j => if sdC co k j = (-1) then wtC co k j else 0) 0))), (0, .ref x), (1, .int (zI k)), (2, .int (zI 0))]) (LC rfl (LC (vz (by rfl)) (LC rfl (LC rfl (LC rfl rfl))))) ?_
  refine up_loop ((co 6 k).toNat) (P := fun (i : Nat) => V p l e (rmL 4 0 0) s m args below meth cd Q 6 s.heap [] 0 0 5 [(4, .int (zI (i : Int))), (3, .int (zI (sumZ (fun j => if sdC co k j = (-1) then wtC co k j else 0) i))), (0, .ref x), (1, .int (zI k)), (2, .int (zI 0))] []) (fun i hi_i ih_i => ?_)
  refine v_iload X dL_weight_5 7 rfl 0 rfl ?_
  refine v_aload_n X dL_weight_7 8 rfl 2 rfl ?_
  refine v_iload_n X dL_weight_8 9 rfl 3 rfl ?_
  refine v_rdV X hC (PW.app h_cm h_co) (c_X9_testimonyCount l E x co 0 (-1) (-1) 0 k hO gk k0) kvX9_testimonyCount kiX9_testimonyCount kl_L_109 rfl rfl (As := [.int (zI k)]) rfl rfl rfl dL_weight_9 12 rfl ?_
  show V p l e (rmL 4 0 0) s m args below meth cd Q 6 s.heap [] 0 0 12 [(4, .int (zI (i : Int))), (3, .int (zI (sumZ (fun j => if sdC co k j = (-1) then wtC co k j else 0) i))), (0, .ref x), (1, .int (zI k)), (2, .int (zI 0))] [.int (zI (co 6 k)), .int (zI (i : Int))]
  have hb_1 := hO.b6 k
  refine v_icmp_ge X (by omega) (by omega) dL_weight_12 15 62 rfl (by decide) (fun c_2 => ?_) (fun c_2 => ?_)
  · skip
    refine v_iload_n X dL_weight_62 63 rfl 1 rfl ?_
    subst hQ; exact v_iret0 X hr hlk dL_weight_63 (by rw [show i = (co 6 k).toNat by omega]; rfl)
  · skip
    have ht := hT.a k0.1 k0.2 (show (0 : Int) ≤ (i : Int) by omega) (show (i : Int) < co 6 k by omega)
    have hsd := hT.sd k0.1 k0.2 (show (0 : Int) ≤ (i : Int) by omega) (show (i : Int) < co 6 k by omega)
    have hb7 := hO.b7 (k * 6 + (i : Int))
    refine v_aload_n X dL_weight_15 16 rfl 2 rfl ?_
    refine v_iload_n X dL_weight_16 17 rfl 3 rfl ?_
    refine v_iload X dL_weight_17 19 rfl 0 rfl ?_
    refine v_rdV X hC (PW.app h_cm h_co) (c_X9_witnessAt l E x co 0 (-1) (-1) 0 k (i : Int) hO gk (by omega) k0 (by omega)) kvX9_witnessAt kiX9_witnessAt kl_L_45 rfl rfl (As := [.int (zI k), .int (zI (i : Int))]) rfl rfl rfl dL_weight_19 22 rfl ?_
    show V p l e (rmL 4 0 0) s m args below meth cd Q 6 s.heap [] 0 0 22 [(4, .int (zI (i : Int))), (3, .int (zI (sumZ (fun j => if sdC co k j = (-1) then wtC co k j else 0) i))), (0, .ref x), (1, .int (zI k)), (2, .int (zI 0))] [.int (zI (co 7 (k * 6 + (i : Int))))]
    have hb_3 := hO.b7 (k * 6 + (i : Int))
    refine v_istore X dL_weight_22 24 rfl (by decide) (L' := [(5, .int (zI (co 7 (k * 6 + (i : Int))))), (4, .int (zI (i : Int))), (3, .int (zI (sumZ (fun j => if sdC co k j = (-1) then wtC co k j else 0) i))), (0, .ref x), (1, .int (zI k)), (2, .int (zI 0))]) rfl ?_
    refine v_iload_n X dL_weight_24 25 rfl 2 rfl ?_
    refine v_aload_n X dL_weight_25 26 rfl 3 rfl ?_
    refine v_iload_n X dL_weight_26 27 rfl 4 rfl ?_
    refine v_iload X dL_weight_27 29 rfl 0 rfl ?_
    have hb_4 := hO.bw
    have hb_5 := hO.b9 (k * 8 + (co 7 (k * 6 + (i : Int))))
    refine v_rdV X hC (PW.app h_cm h_co) (c_X9_isForProsecution l E x co 0 (-1) (-1) 0 k (co 7 (k * 6 + (i : Int))) hO gk (by omega) k0 (by omega) (by omega)) kvX9_isForProsecution kiX9_isForProsecution kl_L_112 rfl rfl (As := [.int (zI k), .int (zI (co 7 (k * 6 + (i : Int))))]) rfl rfl rfl dL_weight_29 32 rfl ?_
    show V p l e (rmL 4 0 0) s m args below meth cd Q 6 s.heap [] 0 0 32 [(5, .int (zI (co 7 (k * 6 + (i : Int))))), (4, .int (zI (i : Int))), (3, .int (zI (sumZ (fun j => if sdC co k j = (-1) then wtC co k j else 0) i))), (0, .ref x), (1, .int (zI k)), (2, .int (zI 0))] [.int (zI (bz (0 < co 8 (k * 8 + (co 7 (k * 6 + (i : Int))))))), .int (zI (sumZ (fun j => if sdC co k j = (-1) then wtC co k j else 0) i))]
    refine v_iload_n X dL_weight_32 33 rfl 5 rfl ?_
    have hb_7 := hO.b8 (k * 8 + (co 7 (k * 6 + (i : Int))))
    refine v_icmp_ne X (by have := bz_rg (φ := 0 < co 8 (k * 8 + (co 7 (k * 6 + (i : Int))))); omega) (by omega) dL_weight_33 36 53 rfl (by decide) (fun c_6 => ?_) (fun c_6 => ?_)
    · skip
      refine v_iconst X dL_weight_53 54 rfl ?_
      refine v_iadd X dL_weight_54 55 rfl ?_
      refine v_istore_n X dL_weight_55 56 rfl rfl (by decide) (L' := [(3, .int (zI (sumZ (fun j => if sdC co k j = (-1) then wtC co k j else 0) i + 0))), (5, .int (zI (co 7 (k * 6 + (i : Int))))), (4, .int (zI (i : Int))), (0, .ref x), (1, .int (zI k)), (2, .int (zI 0))]) rfl ?_
      refine v_iinc X dL_weight_56 59 rfl 2 rfl (by decide) (L' := [(4, .int (zI ((i : Int) + 1))), (3, .int (zI (sumZ (fun j => if sdC co k j = (-1) then wtC co k j else 0) i + 0))), (5, .int (zI (co 7 (k * 6 + (i : Int))))), (0, .ref x), (1, .int (zI k)), (2, .int (zI 0))]) rfl ?_
      refine v_goto X dL_weight_59 5 (by decide) ?_
      refine v_locals [0, 1, 3, 4, 5] (L' := [(4, .int (zI ((i : Int) + 1))), (3, .int (zI (sumZ (fun j => if sdC co k j = (-1) then wtC co k j else 0) i + 0))), (0, .ref x), (1, .int (zI k)), (2, .int (zI 0))]) rfl ?_
      exact V_L (L' := [(4, .int (zI ((i + 1 : Nat) : Int))), (3, .int (zI (sumZ (fun j => if sdC co k j = (-1) then wtC co k j else 0) (i + 1)))), (0, .ref x), (1, .int (zI k)), (2, .int (zI 0))]) (LC (vz (by omega)) (LC (vz (by rw [sumZ_s]; first | (rw [if_pos (wsa3 hsd (by assumption))]; rfl) | (rw [if_neg (wsa4 hsd (by assumption))]))) (LC rfl (LC rfl (LC rfl rfl))))) (ih_i (by omega))
    · skip
      refine v_aload_n X dL_weight_36 37 rfl 3 rfl ?_
      refine v_iload_n X dL_weight_37 38 rfl 4 rfl ?_
      refine v_iload X dL_weight_38 40 rfl 0 rfl ?_
      refine v_rdV X hC (PW.app h_cm h_co) (c_X9_strength l E x co 0 (-1) (-1) 0 k (co 7 (k * 6 + (i : Int))) hO gk (by omega) k0 (by omega) (by omega)) kvX9_strength kiX9_strength kl_L_116 rfl rfl (As := [.int (zI k), .int (zI (co 7 (k * 6 + (i : Int))))]) rfl rfl rfl dL_weight_40 43 rfl ?_
      show V p l e (rmL 4 0 0) s m args below meth cd Q 6 s.heap [] 0 0 43 [(5, .int (zI (co 7 (k * 6 + (i : Int))))), (4, .int (zI (i : Int))), (3, .int (zI (sumZ (fun j => if sdC co k j = (-1) then wtC co k j else 0) i))), (0, .ref x), (1, .int (zI k)), (2, .int (zI 0))] [.int (zI (co 9 (k * 8 + (co 7 (k * 6 + (i : Int)))))), .int (zI (sumZ (fun j => if sdC co k j = (-1) then wtC co k j else 0) i))]
      refine v_aload_n X dL_weight_43 44 rfl 3 rfl ?_
      refine v_iload X dL_weight_44 46 rfl 0 rfl ?_
      refine v_rdV X hC (PW.app h_cm h_co) (c_X9_credibility l E x co 0 (-1) (-1) 0 (co 7 (k * 6 + (i : Int))) hO (by omega) (by omega)) kvX9_credibility kiX9_credibility kl_L_119 rfl rfl (As := [.int (zI (co 7 (k * 6 + (i : Int))))]) rfl rfl rfl dL_weight_46 49 rfl ?_
      show V p l e (rmL 4 0 0) s m args below meth cd Q 6 s.heap [] 0 0 49 [(5, .int (zI (co 7 (k * 6 + (i : Int))))), (4, .int (zI (i : Int))), (3, .int (zI (sumZ (fun j => if sdC co k j = (-1) then wtC co k j else 0) i))), (0, .ref x), (1, .int (zI k)), (2, .int (zI 0))] [.int (zI (co 11 (co 7 (k * 6 + (i : Int))))), .int (zI (co 9 (k * 8 + (co 7 (k * 6 + (i : Int)))))), .int (zI (sumZ (fun j => if sdC co k j = (-1) then wtC co k j else 0) i))]
      have hb_8 := hO.b11 (co 7 (k * 6 + (i : Int)))
      refine v_imul X dL_weight_49 50 rfl ?_
      refine v_goto X dL_weight_50 54 (by decide) ?_
      refine v_iadd X dL_weight_54 55 rfl ?_
      refine v_istore_n X dL_weight_55 56 rfl rfl (by decide) (L' := [(3, .int (zI (sumZ (fun j => if sdC co k j = (-1) then wtC co k j else 0) i + ((co 9 (k * 8 + (co 7 (k * 6 + (i : Int))))) * (co 11 (co 7 (k * 6 + (i : Int)))))))), (5, .int (zI (co 7 (k * 6 + (i : Int))))), (4, .int (zI (i : Int))), (0, .ref x), (1, .int (zI k)), (2, .int (zI 0))]) rfl ?_
      refine v_iinc X dL_weight_56 59 rfl 2 rfl (by decide) (L' := [(4, .int (zI ((i : Int) + 1))), (3, .int (zI (sumZ (fun j => if sdC co k j = (-1) then wtC co k j else 0) i + ((co 9 (k * 8 + (co 7 (k * 6 + (i : Int))))) * (co 11 (co 7 (k * 6 + (i : Int)))))))), (5, .int (zI (co 7 (k * 6 + (i : Int))))), (0, .ref x), (1, .int (zI k)), (2, .int (zI 0))]) rfl ?_
      refine v_goto X dL_weight_59 5 (by decide) ?_
      refine v_locals [0, 1, 3, 4, 5] (L' := [(4, .int (zI ((i : Int) + 1))), (3, .int (zI (sumZ (fun j => if sdC co k j = (-1) then wtC co k j else 0) i + ((co 9 (k * 8 + (co 7 (k * 6 + (i : Int))))) * (co 11 (co 7 (k * 6 + (i : Int)))))))), (0, .ref x), (1, .int (zI k)), (2, .int (zI 0))]) rfl ?_
      exact V_L (L' := [(4, .int (zI ((i + 1 : Nat) : Int))), (3, .int (zI (sumZ (fun j => if sdC co k j = (-1) then wtC co k j else 0) (i + 1)))), (0, .ref x), (1, .int (zI k)), (2, .int (zI 0))]) (LC (vz (by omega)) (LC (vz (by rw [sumZ_s]; first | (rw [if_pos (wsa3 hsd (by assumption))]; rfl) | (rw [if_neg (wsa4 hsd (by assumption))]))) (LC rfl (LC rfl (LC rfl rfl))))) (ih_i (by omega))
set_option maxRecDepth 100000 in
theorem bc_k : ∀ a : Fin 256, (fun x : Int32 =>
  (fun y : Int32 => (fun z : Int32 => (fun u : Int32 => (fun v : Int32 => (v + (v.toUInt32 >>> ((zI 16).toUInt32 &&& Int32.toUInt32 31)).toInt32) &&& zI 63) (u + (u.toUInt32 >>> ((zI 8).toUInt32 &&& Int32.toUInt32 31)).toInt32)) ((z + (z.toUInt32 >>> ((zI 4).toUInt32 &&& Int32.toUInt32 31)).toInt32) &&& zI 252645135)) ((y &&& zI 858993459) + ((y.toUInt32 >>> ((zI 2).toUInt32 &&& Int32.toUInt32 31)).toInt32 &&& zI 858993459))) (x - ((x.toUInt32 >>> ((zI 1).toUInt32 &&& Int32.toUInt32 31)).toInt32 &&& zI 1431655765))) (zI ((a : Nat) : Int)) = zI (sumZ (fun k => ((((a : Nat) >>> Int.toNat k) &&& 1 : Nat) : Int)) 8) := by decide +kernel
