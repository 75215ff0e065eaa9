set_option maxHeartbeats 4000000 in
set_option maxRecDepth 20000 in
theorem c_X4_init (l : Launch) (E : Nat → Nat → Nat) (h : Nat) : Mu l yX4_init cX4_init 2 none 4 225 5040 E [(h, 1)] [.ref h] (fun H => PR E h [(h, .inr (7, [.null, .int 0, .int 0]))] H ∧ H.size = h + 1) (fun rv H => rv = none ∧ HF E (h + 2) 8 (fun _ => c0) H ∧ PR E h [(h, .inr (7, [.ref (h + 1), .int (zI 0), .int (zI 0)])), (h + 1, .inl (E 102 3, 8, .inr (.inr (.inr (.inr (hisA (h + 2) 8))))))] H ∧ H.size = h + 226) := by
  refine Mu.start (own := RX4) rfl (by decide +kernel) (Nat.le_of_ble_eq_true rfl) ?_
  intro p e s m below meth cd args Q hQ X hr hlk hnm hM hPr
  obtain ⟨h_hi, hz⟩ := hPr
  have hz0 := hz
  refine v_aload_n X dX4_init_0 1 rfl 0 rfl ?_
  refine v_objinit X kl_X4_3 dX4_init_1 4 rfl rfl ?_
  refine v_aload_n X dX4_init_4 5 rfl 0 rfl ?_
  refine v_bipush X dX4_init_5 7 rfl rfl ?_
  refine v_newq X hM kc_X4_9 (N := 8) rfl (by decide) (by decide) ⟨Nat.le_of_ble_eq_true rfl, Nat.le_of_ble_eq_true rfl⟩ dX4_init_7 10 rfl (k' := 1) (n' := 8) rfl rfl (fun o H1 ho hz1 hM hF h_new => ?_)
  obtain rfl : o = h + 1 := ho.trans hz
  replace hz : H1.size = h + 2 := hz1
  clear ho hz1
  have h_n_2 : PR E (h + 1) [(h + 1, .inl (E 102 3, 8, .inr (.inr (.inr (.inr (fun _ => none))))))] H1 := h_new
  replace h_hi := h_hi.kept hF 1 rfl (fun q _ _ h => h.elim)
  replace h_n_2 : PR E (h + 1) [(h + 1, .inl (E 102 3, 8, .inr (.inr (.inr (.inr (hisA (h + 2) 0))))))] H1 := PR.to h_n_2 (by rw [show (fun _ => none : Nat → Option Nat) = hisA (h + 2) 0 from by funext j; unfold hisA; rw [if_neg (by omega)]])
  refine v_putF X hM h_hi ftX4 0 rfl rfl 0 (by decide) kf_X4_11 (fun _ h => h) rfl hnm rfl rfl rfl (Nat.le_of_ble_eq_true rfl) (Or.inl (fsH (by omega) (by omega))) dX4_init_10 13 rfl (ws' := [(h, .inr (7, [.ref (h + 1), .int 0, .int 0]))]) rfl (fun H3 lo3 hzz hM hF h_hi => ?_)
  replace hz : H3.size = h + 2 := hzz.trans hz
  clear hzz
  replace h_n_2 := h_n_2.kept hF 1 rfl (fsd (by omega))
  refine v_aload_n X dX4_init_13 14 rfl 0 rfl ?_
  refine v_iconst X dX4_init_14 15 rfl ?_
  refine v_putf X hM h_hi ftX4 0 rfl rfl 1 (by decide) kf_X4_17 (fun _ h => h) rfl rfl rfl (Nat.le_of_ble_eq_true rfl) (Or.inl (fsH (by omega) (by omega))) dX4_init_15 18 rfl (ws' := [(h, .inr (7, [.ref (h + 1), .int (zI 0), .int 0]))]) rfl (fun H4 lo4 hzz hM hF h_hi => ?_)
  replace hz : H4.size = h + 2 := hzz.trans hz
  clear hzz
  replace h_n_2 := h_n_2.kept hF 1 rfl (fsd (by omega))
  refine v_aload_n X dX4_init_18 19 rfl 0 rfl ?_
  refine v_iconst X dX4_init_19 20 rfl ?_
  refine v_putf X hM h_hi ftX4 0 rfl rfl 2 (by decide) kf_X4_21 (fun _ h => h) rfl rfl rfl (Nat.le_of_ble_eq_true rfl) (Or.inl (fsH (by omega) (by omega))) dX4_init_20 23 rfl (ws' := [(h, .inr (7, [.ref (h + 1), .int (zI 0), .int (zI 0)]))]) rfl (fun H5 lo5 hzz hM hF h_hi => ?_)
  replace hz : H5.size = h + 2 := hzz.trans hz
  clear hzz
  replace h_n_2 := h_n_2.kept hF 1 rfl (fsd (by omega))
  refine v_iconst X dX4_init_23 24 rfl ?_
  refine v_istore_n X dX4_init_24 25 rfl rfl (by decide) (L' := [(1, .int (zI 0)), (0, .ref h)]) rfl ?_
  refine v_iload_n X dX4_init_25 26 rfl 0 rfl ?_
  refine v_aload_n X dX4_init_26 27 rfl 1 rfl ?_
  refine v_getf X hM.C h_hi.1 inX4 0 rfl rfl 0 (by decide) kf_X4_11 (fun _ h => h) rfl dX4_init_27 30 rfl ?_
  refine v_alen X hM.C h_n_2.1 0 3 rfl rfl dX4_init_30 31 rfl ?_
  refine v_icmp_ge X (by omega) (by omega) dX4_init_31 34 53 rfl (by decide) (fun c_6 => ?_) (fun c_6 => ?_)
  · skip
    exfalso; omega
  · skip
    refine v_aload_n X dX4_init_34 35 rfl 1 rfl ?_
    refine v_getf X hM.C h_hi.1 inX4 0 rfl rfl 0 (by decide) kf_X4_11 (fun _ h => h) rfl dX4_init_35 38 rfl ?_
    refine v_iload_n X dX4_init_38 39 rfl 0 rfl ?_
    refine v_new (ci := 4) X hM ftX0 kc_X4_9 kins_X0 kini_CaseManager_Court rfl dfX0 rfl dX4_init_39 42 rfl (k' := 2) (n' := 25) rfl rfl (fun o H7 ho hz1 hM hF h_new => ?_)
    obtain rfl : o = h + 2 := ho.trans hz
    replace hz : H7.size = h + 3 := hz1
    clear ho hz1
    have h_n_8 : PR E (h + 2) [(h + 2, .inr (4, [.int 0, .int 0, .int 0, .int 0, .null, .null, .null, .null, .null, .null, .null, .null, .null, .null, .null, .null, .null]))] H7 := h_new
    replace h_hi := h_hi.kept hF 1 rfl (fun q _ _ h => h.elim)
    replace h_n_2 := h_n_2.kept hF 1 rfl (fun q _ _ h => h.elim)
    refine v_dup X dX4_init_42 43 rfl rfl ?_
    refine v_muIN X hM (c_X0_init l E (h + 2)) rfl kvX0_init kiiX0_init rfl kln_X4_24 (As := []) rfl rfl rfl dX4_init_43 46 rfl (k' := 29) (n' := 637) rfl rfl (fsI (fun q q1 q2 => (Or.inr (by omega)))) ⟨h_n_8, (by omega)⟩ (fun rv H9 lo9 hM hF hpo => ?_)
    obtain ⟨rfl, hw_0, hz9⟩ := hpo
    clear hz
    have hz := hz9; clear hz9
    replace hz : H9.size = h + 30 := hz
    have h_n_8 : PR E (h + 2) (courtW E (h + 2) c0) H9 := hw_0
    replace h_hi := h_hi.kept hF 1 rfl (fsd (by omega))
    replace h_n_2 := h_n_2.kept hF 1 rfl (fsd (by omega))
    show V p l e (rmL 4 225 5040) s m args below meth cd Q 2 H9 lo9 29 637 46 [(1, .int (zI 0)), (0, .ref h)] [.ref (h + 2), .int (zI 0), .ref (h + 1)]
    refine v_astq X hM h_n_2 0 rfl h_n_8.1 0 rfl (by omega) (by omega) (by omega) (Or.inr (by omega)) dX4_init_46 47 rfl (ws' := [(h + 1, .inl (E 102 3, 8, .inr (.inr (.inr (.inr (va_up (hisA (h + 2) 0) ((0 : Int).toNat) (some (h + 2))))))))]) rfl (fun H10 lo10 hzz hM hF h_n_2 => ?_)
    replace hz : H10.size = h + 30 := hzz.trans hz
    clear hzz
    replace h_hi := h_hi.kept hF 1 rfl (fsd (by omega))
    replace h_n_8 := h_n_8.kept hF 28 rfl (fsd (by omega))
    have eh : va_up (hisA (h + 2) 0) ((0 : Int).toNat) (some (h + 2)) = hisA (h + 2) 1 := hisA_up (b := h + 2) (n := 0)
    rw [eh] at h_n_2
    clear eh
    refine v_iinc X dX4_init_47 50 rfl 0 rfl (by decide) (L' := [(1, .int (zI (0 + 1))), (0, .ref h)]) rfl ?_
    refine v_goto X dX4_init_50 25 (by decide) ?_
    refine V_L (L' := [(1, .int (zI 1)), (0, .ref h)]) (LC (vz (by omega)) (LC rfl rfl)) ?_
    refine v_iload_n X dX4_init_25 26 rfl 0 rfl ?_
    refine v_aload_n X dX4_init_26 27 rfl 1 rfl ?_
    refine v_getf X hM.C h_hi.1 inX4 0 rfl rfl 0 (by decide) kf_X4_11 (fun _ h => h) rfl dX4_init_27 30 rfl ?_
    refine v_alen X hM.C h_n_2.1 0 3 rfl rfl dX4_init_30 31 rfl ?_
    refine v_icmp_ge X (by omega) (by omega) dX4_init_31 34 53 rfl (by decide) (fun c_11 => ?_) (fun c_11 => ?_)
    · skip
      exfalso; omega
    · skip
      refine v_aload_n X dX4_init_34 35 rfl 1 rfl ?_
      refine v_getf X hM.C h_hi.1 inX4 0 rfl rfl 0 (by decide) kf_X4_11 (fun _ h => h) rfl dX4_init_35 38 rfl ?_
      refine v_iload_n X dX4_init_38 39 rfl 0 rfl ?_
      refine v_new (ci := 4) X hM ftX0 kc_X4_9 kins_X0 kini_CaseManager_Court rfl dfX0 rfl dX4_init_39 42 rfl (k' := 30) (n' := 654) rfl rfl (fun o H12 ho hz1 hM hF h_new => ?_)
      obtain rfl : o = h + 30 := ho.trans hz
      replace hz : H12.size = h + 31 := hz1
      clear ho hz1
      have h_n_13 : PR E (h + 30) [(h + 30, .inr (4, [.int 0, .int 0, .int 0, .int 0, .null, .null, .null, .null, .null, .null, .null, .null, .null, .null, .null, .null, .null]))] H12 := h_new
      replace h_hi := h_hi.kept hF 1 rfl (fun q _ _ h => h.elim)
      replace h_n_2 := h_n_2.kept hF 1 rfl (fun q _ _ h => h.elim)
      replace h_n_8 := h_n_8.kept hF 28 rfl (fun q _ _ h => h.elim)
      refine v_dup X dX4_init_42 43 rfl rfl ?_
      refine v_muIN X hM (c_X0_init l E (h + 30)) rfl kvX0_init kiiX0_init rfl kln_X4_24 (As := []) rfl rfl rfl dX4_init_43 46 rfl (k' := 57) (n' := 1266) rfl rfl (fsI (fun q q1 q2 => (Or.inr (by omega)))) ⟨h_n_13, (by omega)⟩ (fun rv H14 lo14 hM hF hpo => ?_)
      obtain ⟨rfl, hw_0, hz9⟩ := hpo
      clear hz
      have hz := hz9; clear hz9
      replace hz : H14.size = h + 58 := hz
      have h_n_13 : PR E (h + 30) (courtW E (h + 30) c0) H14 := hw_0
      replace h_hi := h_hi.kept hF 1 rfl (fsd (by omega))
      replace h_n_2 := h_n_2.kept hF 1 rfl (fsd (by omega))
      replace h_n_8 := h_n_8.kept hF 28 rfl (fsd (by omega))
      show V p l e (rmL 4 225 5040) s m args below meth cd Q 2 H14 lo14 57 1266 46 [(1, .int (zI 1)), (0, .ref h)] [.ref (h + 30), .int (zI 1), .ref (h + 1)]
      refine v_astq X hM h_n_2 0 rfl h_n_13.1 0 rfl (by omega) (by omega) (by omega) (Or.inr (by omega)) dX4_init_46 47 rfl (ws' := [(h + 1, .inl (E 102 3, 8, .inr (.inr (.inr (.inr (va_up (hisA (h + 2) 1) ((1 : Int).toNat) (some (h + 30))))))))]) rfl (fun H15 lo15 hzz hM hF h_n_2 => ?_)
      replace hz : H15.size = h + 58 := hzz.trans hz
      clear hzz
      replace h_hi := h_hi.kept hF 1 rfl (fsd (by omega))
      replace h_n_8 := h_n_8.kept hF 28 rfl (fsd (by omega))
      replace h_n_13 := h_n_13.kept hF 28 rfl (fsd (by omega))
      have eh : va_up (hisA (h + 2) 1) ((1 : Int).toNat) (some (h + 30)) = hisA (h + 2) 2 := hisA_up (b := h + 2) (n := 1)
      rw [eh] at h_n_2
      clear eh
      refine v_iinc X dX4_init_47 50 rfl 0 rfl (by decide) (L' := [(1, .int (zI (1 + 1))), (0, .ref h)]) rfl ?_
      refine v_goto X dX4_init_50 25 (by decide) ?_
      refine V_L (L' := [(1, .int (zI 2)), (0, .ref h)]) (LC (vz (by omega)) (LC rfl rfl)) ?_
      refine v_iload_n X dX4_init_25 26 rfl 0 rfl ?_
      refine v_aload_n X dX4_init_26 27 rfl 1 rfl ?_
      refine v_getf X hM.C h_hi.1 inX4 0 rfl rfl 0 (by decide) kf_X4_11 (fun _ h => h) rfl dX4_init_27 30 rfl ?_
      refine v_alen X hM.C h_n_2.1 0 3 rfl rfl dX4_init_30 31 rfl ?_
      refine v_icmp_ge X (by omega) (by omega) dX4_init_31 34 53 rfl (by decide) (fun c_16 => ?_) (fun c_16 => ?_)
      · skip
        exfalso; omega
      · skip
        refine v_aload_n X dX4_init_34 35 rfl 1 rfl ?_
        refine v_getf X hM.C h_hi.1 inX4 0 rfl rfl 0 (by decide) kf_X4_11 (fun _ h => h) rfl dX4_init_35 38 rfl ?_
        refine v_iload_n X dX4_init_38 39 rfl 0 rfl ?_
        refine v_new (ci := 4) X hM ftX0 kc_X4_9 kins_X0 kini_CaseManager_Court rfl dfX0 rfl dX4_init_39 42 rfl (k' := 58) (n' := 1283) rfl rfl (fun o H17 ho hz1 hM hF h_new => ?_)
        obtain rfl : o = h + 58 := ho.trans hz
        replace hz : H17.size = h + 59 := hz1
        clear ho hz1
        have h_n_18 : PR E (h + 58) [(h + 58, .inr (4, [.int 0, .int 0, .int 0, .int 0, .null, .null, .null, .null, .null, .null, .null, .null, .null, .null, .null, .null, .null]))] H17 := h_new
        replace h_hi := h_hi.kept hF 1 rfl (fun q _ _ h => h.elim)
        replace h_n_2 := h_n_2.kept hF 1 rfl (fun q _ _ h => h.elim)
        replace h_n_8 := h_n_8.kept hF 28 rfl (fun q _ _ h => h.elim)
        replace h_n_13 := h_n_13.kept hF 28 rfl (fun q _ _ h => h.elim)
        refine v_dup X dX4_init_42 43 rfl rfl ?_
        refine v_muIN X hM (c_X0_init l E (h + 58)) rfl kvX0_init kiiX0_init rfl kln_X4_24 (As := []) rfl rfl rfl dX4_init_43 46 rfl (k' := 85) (n' := 1895) rfl rfl (fsI (fun q q1 q2 => (Or.inr (by omega)))) ⟨h_n_18, (by omega)⟩ (fun rv H19 lo19 hM hF hpo => ?_)
        obtain ⟨rfl, hw_0, hz9⟩ := hpo
        clear hz
        have hz := hz9; clear hz9
        replace hz : H19.size = h + 86 := hz
        have h_n_18 : PR E (h + 58) (courtW E (h + 58) c0) H19 := hw_0
        replace h_hi := h_hi.kept hF 1 rfl (fsd (by omega))
        replace h_n_2 := h_n_2.kept hF 1 rfl (fsd (by omega))
        replace h_n_8 := h_n_8.kept hF 28 rfl (fsd (by omega))
        replace h_n_13 := h_n_13.kept hF 28 rfl (fsd (by omega))
        show V p l e (rmL 4 225 5040) s m args below meth cd Q 2 H19 lo19 85 1895 46 [(1, .int (zI 2)), (0, .ref h)] [.ref (h + 58), .int (zI 2), .ref (h + 1)]
        refine v_astq X hM h_n_2 0 rfl h_n_18.1 0 rfl (by omega) (by omega) (by omega) (Or.inr (by omega)) dX4_init_46 47 rfl (ws' := [(h + 1, .inl (E 102 3, 8, .inr (.inr (.inr (.inr (va_up (hisA (h + 2) 2) ((2 : Int).toNat) (some (h + 58))))))))]) rfl (fun H20 lo20 hzz hM hF h_n_2 => ?_)
        replace hz : H20.size = h + 86 := hzz.trans hz
        clear hzz
        replace h_hi := h_hi.kept hF 1 rfl (fsd (by omega))
        replace h_n_8 := h_n_8.kept hF 28 rfl (fsd (by omega))
        replace h_n_13 := h_n_13.kept hF 28 rfl (fsd (by omega))
        replace h_n_18 := h_n_18.kept hF 28 rfl (fsd (by omega))
        have eh : va_up (hisA (h + 2) 2) ((2 : Int).toNat) (some (h + 58)) = hisA (h + 2) 3 := hisA_up (b := h + 2) (n := 2)
        rw [eh] at h_n_2
        clear eh
        refine v_iinc X dX4_init_47 50 rfl 0 rfl (by decide) (L' := [(1, .int (zI (2 + 1))), (0, .ref h)]) rfl ?_
        refine v_goto X dX4_init_50 25 (by decide) ?_
        refine V_L (L' := [(1, .int (zI 3)), (0, .ref h)]) (LC (vz (by omega)) (LC rfl rfl)) ?_
        refine v_iload_n X dX4_init_25 26 rfl 0 rfl ?_
        refine v_aload_n X dX4_init_26 27 rfl 1 rfl ?_
        refine v_getf X hM.C h_hi.1 inX4 0 rfl rfl 0 (by decide) kf_X4_11 (fun _ h => h) rfl dX4_init_27 30 rfl ?_
        refine v_alen X hM.C h_n_2.1 0 3 rfl rfl dX4_init_30 31 rfl ?_
        refine v_icmp_ge X (by omega) (by omega) dX4_init_31 34 53 rfl (by decide) (fun c_21 => ?_) (fun c_21 => ?_)
        · skip
          exfalso; omega
        · skip
          refine v_aload_n X dX4_init_34 35 rfl 1 rfl ?_
          refine v_getf X hM.C h_hi.1 inX4 0 rfl rfl 0 (by decide) kf_X4_11 (fun _ h => h) rfl dX4_init_35 38 rfl ?_
          refine v_iload_n X dX4_init_38 39 rfl 0 rfl ?_
          refine v_new (ci := 4) X hM ftX0 kc_X4_9 kins_X0 kini_CaseManager_Court rfl dfX0 rfl dX4_init_39 42 rfl (k' := 86) (n' := 1912) rfl rfl (fun o H22 ho hz1 hM hF h_new => ?_)
          obtain rfl : o = h + 86 := ho.trans hz
          replace hz : H22.size = h + 87 := hz1
          clear ho hz1
          have h_n_23 : PR E (h + 86) [(h + 86, .inr (4, [.int 0, .int 0, .int 0, .int 0, .null, .null, .null, .null, .null, .null, .null, .null, .null, .null, .null, .null, .null]))] H22 := h_new
          replace h_hi := h_hi.kept hF 1 rfl (fun q _ _ h => h.elim)
          replace h_n_2 := h_n_2.kept hF 1 rfl (fun q _ _ h => h.elim)
          replace h_n_8 := h_n_8.kept hF 28 rfl (fun q _ _ h => h.elim)
          replace h_n_13 := h_n_13.kept hF 28 rfl (fun q _ _ h => h.elim)
          replace h_n_18 := h_n_18.kept hF 28 rfl (fun q _ _ h => h.elim)
          refine v_dup X dX4_init_42 43 rfl rfl ?_
          refine v_muIN X hM (c_X0_init l E (h + 86)) rfl kvX0_init kiiX0_init rfl kln_X4_24 (As := []) rfl rfl rfl dX4_init_43 46 rfl (k' := 113) (n' := 2524) rfl rfl (fsI (fun q q1 q2 => (Or.inr (by omega)))) ⟨h_n_23, (by omega)⟩ (fun rv H24 lo24 hM hF hpo => ?_)
          obtain ⟨rfl, hw_0, hz9⟩ := hpo
          clear hz
          have hz := hz9; clear hz9
          replace hz : H24.size = h + 114 := hz
          have h_n_23 : PR E (h + 86) (courtW E (h + 86) c0) H24 := hw_0
          replace h_hi := h_hi.kept hF 1 rfl (fsd (by omega))
          replace h_n_2 := h_n_2.kept hF 1 rfl (fsd (by omega))
          replace h_n_8 := h_n_8.kept hF 28 rfl (fsd (by omega))
          replace h_n_13 := h_n_13.kept hF 28 rfl (fsd (by omega))
          replace h_n_18 := h_n_18.kept hF 28 rfl (fsd (by omega))
          show V p l e (rmL 4 225 5040) s m args below meth cd Q 2 H24 lo24 113 2524 46 [(1, .int (zI 3)), (0, .ref h)] [.ref (h + 86), .int (zI 3), .ref (h + 1)]
          refine v_astq X hM h_n_2 0 rfl h_n_23.1 0 rfl (by omega) (by omega) (by omega) (Or.inr (by omega)) dX4_init_46 47 rfl (ws' := [(h + 1, .inl (E 102 3, 8, .inr (.inr (.inr (.inr (va_up (hisA (h + 2) 3) ((3 : Int).toNat) (some (h + 86))))))))]) rfl (fun H25 lo25 hzz hM hF h_n_2 => ?_)
          replace hz : H25.size = h + 114 := hzz.trans hz
          clear hzz
          replace h_hi := h_hi.kept hF 1 rfl (fsd (by omega))
          replace h_n_8 := h_n_8.kept hF 28 rfl (fsd (by omega))
          replace h_n_13 := h_n_13.kept hF 28 rfl (fsd (by omega))
          replace h_n_18 := h_n_18.kept hF 28 rfl (fsd (by omega))
          replace h_n_23 := h_n_23.kept hF 28 rfl (fsd (by omega))
          have eh : va_up (hisA (h + 2) 3) ((3 : Int).toNat) (some (h + 86)) = hisA (h + 2) 4 := hisA_up (b := h + 2) (n := 3)
          rw [eh] at h_n_2
          clear eh
          refine v_iinc X dX4_init_47 50 rfl 0 rfl (by decide) (L' := [(1, .int (zI (3 + 1))), (0, .ref h)]) rfl ?_
          refine v_goto X dX4_init_50 25 (by decide) ?_
          refine V_L (L' := [(1, .int (zI 4)), (0, .ref h)]) (LC (vz (by omega)) (LC rfl rfl)) ?_
          refine v_iload_n X dX4_init_25 26 rfl 0 rfl ?_
          refine v_aload_n X dX4_init_26 27 rfl 1 rfl ?_
          refine v_getf X hM.C h_hi.1 inX4 0 rfl rfl 0 (by decide) kf_X4_11 (fun _ h => h) rfl dX4_init_27 30 rfl ?_
          refine v_alen X hM.C h_n_2.1 0 3 rfl rfl dX4_init_30 31 rfl ?_
          refine v_icmp_ge X (by omega) (by omega) dX4_init_31 34 53 rfl (by decide) (fun c_26 => ?_) (fun c_26 => ?_)
          · skip
            exfalso; omega
          · skip
            refine v_aload_n X dX4_init_34 35 rfl 1 rfl ?_
            refine v_getf X hM.C h_hi.1 inX4 0 rfl rfl 0 (by decide) kf_X4_11 (fun _ h => h) rfl dX4_init_35 38 rfl ?_
            refine v_iload_n X dX4_init_38 39 rfl 0 rfl ?_
            refine v_new (ci := 4) X hM ftX0 kc_X4_9 kins_X0 kini_CaseManager_Court rfl dfX0 rfl dX4_init_39 42 rfl (k' := 114) (n' := 2541) rfl rfl (fun o H27 ho hz1 hM hF h_new => ?_)
            obtain rfl : o = h + 114 := ho.trans hz
            replace hz : H27.size = h + 115 := hz1
            clear ho hz1
            have h_n_28 : PR E (h + 114) [(h + 114, .inr (4, [.int 0, .int 0, .int 0, .int 0, .null, .null, .null, .null, .null, .null, .null, .null, .null, .null, .null, .null, .null]))] H27 := h_new
            replace h_hi := h_hi.kept hF 1 rfl (fun q _ _ h => h.elim)
            replace h_n_2 := h_n_2.kept hF 1 rfl (fun q _ _ h => h.elim)
            replace h_n_8 := h_n_8.kept hF 28 rfl (fun q _ _ h => h.elim)
            replace h_n_13 := h_n_13.kept hF 28 rfl (fun q _ _ h => h.elim)
            replace h_n_18 := h_n_18.kept hF 28 rfl (fun q _ _ h => h.elim)
            replace h_n_23 := h_n_23.kept hF 28 rfl (fun q _ _ h => h.elim)
            refine v_dup X dX4_init_42 43 rfl rfl ?_
            refine v_muIN X hM (c_X0_init l E (h + 114)) rfl kvX0_init kiiX0_init rfl kln_X4_24 (As := []) rfl rfl rfl dX4_init_43 46 rfl (k' := 141) (n' := 3153) rfl rfl (fsI (fun q q1 q2 => (Or.inr (by omega)))) ⟨h_n_28, (by omega)⟩ (fun rv H29 lo29 hM hF hpo => ?_)
            obtain ⟨rfl, hw_0, hz9⟩ := hpo
            clear hz
            have hz := hz9; clear hz9
            replace hz : H29.size = h + 142 := hz
            have h_n_28 : PR E (h + 114) (courtW E (h + 114) c0) H29 := hw_0
            replace h_hi := h_hi.kept hF 1 rfl (fsd (by omega))
            replace h_n_2 := h_n_2.kept hF 1 rfl (fsd (by omega))
            replace h_n_8 := h_n_8.kept hF 28 rfl (fsd (by omega))
            replace h_n_13 := h_n_13.kept hF 28 rfl (fsd (by omega))
            replace h_n_18 := h_n_18.kept hF 28 rfl (fsd (by omega))
            replace h_n_23 := h_n_23.kept hF 28 rfl (fsd (by omega))
            show V p l e (rmL 4 225 5040) s m args below meth cd Q 2 H29 lo29 141 3153 46 [(1, .int (zI 4)), (0, .ref h)] [.ref (h + 114), .int (zI 4), .ref (h + 1)]
            refine v_astq X hM h_n_2 0 rfl h_n_28.1 0 rfl (by omega) (by omega) (by omega) (Or.inr (by omega)) dX4_init_46 47 rfl (ws' := [(h + 1, .inl (E 102 3, 8, .inr (.inr (.inr (.inr (va_up (hisA (h + 2) 4) ((4 : Int).toNat) (some (h + 114))))))))]) rfl (fun H30 lo30 hzz hM hF h_n_2 => ?_)
            replace hz : H30.size = h + 142 := hzz.trans hz
            clear hzz
            replace h_hi := h_hi.kept hF 1 rfl (fsd (by omega))
            replace h_n_8 := h_n_8.kept hF 28 rfl (fsd (by omega))
            replace h_n_13 := h_n_13.kept hF 28 rfl (fsd (by omega))
            replace h_n_18 := h_n_18.kept hF 28 rfl (fsd (by omega))
            replace h_n_23 := h_n_23.kept hF 28 rfl (fsd (by omega))
            replace h_n_28 := h_n_28.kept hF 28 rfl (fsd (by omega))
            have eh : va_up (hisA (h + 2) 4) ((4 : Int).toNat) (some (h + 114)) = hisA (h + 2) 5 := hisA_up (b := h + 2) (n := 4)
            rw [eh] at h_n_2
            clear eh
            refine v_iinc X dX4_init_47 50 rfl 0 rfl (by decide) (L' := [(1, .int (zI (4 + 1))), (0, .ref h)]) rfl ?_
            refine v_goto X dX4_init_50 25 (by decide) ?_
            refine V_L (L' := [(1, .int (zI 5)), (0, .ref h)]) (LC (vz (by omega)) (LC rfl rfl)) ?_
            refine v_iload_n X dX4_init_25 26 rfl 0 rfl ?_
            refine v_aload_n X dX4_init_26 27 rfl 1 rfl ?_
            refine v_getf X hM.C h_hi.1 inX4 0 rfl rfl 0 (by decide) kf_X4_11 (fun _ h => h) rfl dX4_init_27 30 rfl ?_
            refine v_alen X hM.C h_n_2.1 0 3 rfl rfl dX4_init_30 31 rfl ?_
            refine v_icmp_ge X (by omega) (by omega) dX4_init_31 34 53 rfl (by decide) (fun c_31 => ?_) (fun c_31 => ?_)
            · skip
              exfalso; omega
            · skip
              refine v_aload_n X dX4_init_34 35 rfl 1 rfl ?_
              refine v_getf X hM.C h_hi.1 inX4 0 rfl rfl 0 (by decide) kf_X4_11 (fun _ h => h) rfl dX4_init_35 38 rfl ?_
              refine v_iload_n X dX4_init_38 39 rfl 0 rfl ?_
              refine v_new (ci := 4) X hM ftX0 kc_X4_9 kins_X0 kini_CaseManager_Court rfl dfX0 rfl dX4_init_39 42 rfl (k' := 142) (n' := 3170) rfl rfl (fun o H32 ho hz1 hM hF h_new => ?_)
              obtain rfl : o = h + 142 := ho.trans hz
              replace hz : H32.size = h + 143 := hz1
              clear ho hz1
              have h_n_33 : PR E (h + 142) [(h + 142, .inr (4, [.int 0, .int 0, .int 0, .int 0, .null, .null, .null, .null, .null, .null, .null, .null, .null, .null, .null, .null, .null]))] H32 := h_new
              replace h_hi := h_hi.kept hF 1 rfl (fun q _ _ h => h.elim)
              replace h_n_2 := h_n_2.kept hF 1 rfl (fun q _ _ h => h.elim)
              replace h_n_8 := h_n_8.kept hF 28 rfl (fun q _ _ h => h.elim)
              replace h_n_13 := h_n_13.kept hF 28 rfl (fun q _ _ h => h.elim)
              replace h_n_18 := h_n_18.kept hF 28 rfl (fun q _ _ h => h.elim)
              replace h_n_23 := h_n_23.kept hF 28 rfl (fun q _ _ h => h.elim)
              replace h_n_28 := h_n_28.kept hF 28 rfl (fun q _ _ h => h.elim)
              refine v_dup X dX4_init_42 43 rfl rfl ?_
              refine v_muIN X hM (c_X0_init l E (h + 142)) rfl kvX0_init kiiX0_init rfl kln_X4_24 (As := []) rfl rfl rfl dX4_init_43 46 rfl (k' := 169) (n' := 3782) rfl rfl (fsI (fun q q1 q2 => (Or.inr (by omega)))) ⟨h_n_33, (by omega)⟩ (fun rv H34 lo34 hM hF hpo => ?_)
              obtain ⟨rfl, hw_0, hz9⟩ := hpo
              clear hz
              have hz := hz9; clear hz9
              replace hz : H34.size = h + 170 := hz
              have h_n_33 : PR E (h + 142) (courtW E (h + 142) c0) H34 := hw_0
              replace h_hi := h_hi.kept hF 1 rfl (fsd (by omega))
              replace h_n_2 := h_n_2.kept hF 1 rfl (fsd (by omega))
              replace h_n_8 := h_n_8.kept hF 28 rfl (fsd (by omega))
              replace h_n_13 := h_n_13.kept hF 28 rfl (fsd (by omega))
              replace h_n_18 := h_n_18.kept hF 28 rfl (fsd (by omega))
              replace h_n_23 := h_n_23.kept hF 28 rfl (fsd (by omega))
              replace h_n_28 := h_n_28.kept hF 28 rfl (fsd (by omega))
              show V p l e (rmL 4 225 5040) s m args below meth cd Q 2 H34 lo34 169 3782 46 [(1, .int (zI 5)), (0, .ref h)] [.ref (h + 142), .int (zI 5), .ref (h + 1)]
              refine v_astq X hM h_n_2 0 rfl h_n_33.1 0 rfl (by omega) (by omega) (by omega) (Or.inr (by omega)) dX4_init_46 47 rfl (ws' := [(h + 1, .inl (E 102 3, 8, .inr (.inr (.inr (.inr (va_up (hisA (h + 2) 5) ((5 : Int).toNat) (some (h + 142))))))))]) rfl (fun H35 lo35 hzz hM hF h_n_2 => ?_)
              replace hz : H35.size = h + 170 := hzz.trans hz
              clear hzz
              replace h_hi := h_hi.kept hF 1 rfl (fsd (by omega))
              replace h_n_8 := h_n_8.kept hF 28 rfl (fsd (by omega))
              replace h_n_13 := h_n_13.kept hF 28 rfl (fsd (by omega))
              replace h_n_18 := h_n_18.kept hF 28 rfl (fsd (by omega))
              replace h_n_23 := h_n_23.kept hF 28 rfl (fsd (by omega))
              replace h_n_28 := h_n_28.kept hF 28 rfl (fsd (by omega))
              replace h_n_33 := h_n_33.kept hF 28 rfl (fsd (by omega))
              have eh : va_up (hisA (h + 2) 5) ((5 : Int).toNat) (some (h + 142)) = hisA (h + 2) 6 := hisA_up (b := h + 2) (n := 5)
              rw [eh] at h_n_2
              clear eh
              refine v_iinc X dX4_init_47 50 rfl 0 rfl (by decide) (L' := [(1, .int (zI (5 + 1))), (0, .ref h)]) rfl ?_
              refine v_goto X dX4_init_50 25 (by decide) ?_
              refine V_L (L' := [(1, .int (zI 6)), (0, .ref h)]) (LC (vz (by omega)) (LC rfl rfl)) ?_
              refine v_iload_n X dX4_init_25 26 rfl 0 rfl ?_
              refine v_aload_n X dX4_init_26 27 rfl 1 rfl ?_
              refine v_getf X hM.C h_hi.1 inX4 0 rfl rfl 0 (by decide) kf_X4_11 (fun _ h => h) rfl dX4_init_27 30 rfl ?_
              refine v_alen X hM.C h_n_2.1 0 3 rfl rfl dX4_init_30 31 rfl ?_
              refine v_icmp_ge X (by omega) (by omega) dX4_init_31 34 53 rfl (by decide) (fun c_36 => ?_) (fun c_36 => ?_)
              · skip
                exfalso; omega
              · skip
                refine v_aload_n X dX4_init_34 35 rfl 1 rfl ?_
                refine v_getf X hM.C h_hi.1 inX4 0 rfl rfl 0 (by decide) kf_X4_11 (fun _ h => h) rfl dX4_init_35 38 rfl ?_
                refine v_iload_n X dX4_init_38 39 rfl 0 rfl ?_
                refine v_new (ci := 4) X hM ftX0 kc_X4_9 kins_X0 kini_CaseManager_Court rfl dfX0 rfl dX4_init_39 42 rfl (k' := 170) (n' := 3799) rfl rfl (fun o H37 ho hz1 hM hF h_new => ?_)
                obtain rfl : o = h + 170 := ho.trans hz
                replace hz : H37.size = h + 171 := hz1
                clear ho hz1
                have h_n_38 : PR E (h + 170) [(h + 170, .inr (4, [.int 0, .int 0, .int 0, .int 0, .null, .null, .null, .null, .null, .null, .null, .null, .null, .null, .null, .null, .null]))] H37 := h_new
                replace h_hi := h_hi.kept hF 1 rfl (fun q _ _ h => h.elim)
                replace h_n_2 := h_n_2.kept hF 1 rfl (fun q _ _ h => h.elim)
                replace h_n_8 := h_n_8.kept hF 28 rfl (fun q _ _ h => h.elim)
                replace h_n_13 := h_n_13.kept hF 28 rfl (fun q _ _ h => h.elim)
                replace h_n_18 := h_n_18.kept hF 28 rfl (fun q _ _ h => h.elim)
                replace h_n_23 := h_n_23.kept hF 28 rfl (fun q _ _ h => h.elim)
                replace h_n_28 := h_n_28.kept hF 28 rfl (fun q _ _ h => h.elim)
                replace h_n_33 := h_n_33.kept hF 28 rfl (fun q _ _ h => h.elim)
                refine v_dup X dX4_init_42 43 rfl rfl ?_
                refine v_muIN X hM (c_X0_init l E (h + 170)) rfl kvX0_init kiiX0_init rfl kln_X4_24 (As := []) rfl rfl rfl dX4_init_43 46 rfl (k' := 197) (n' := 4411) rfl rfl (fsI (fun q q1 q2 => (Or.inr (by omega)))) ⟨h_n_38, (by omega)⟩ (fun rv H39 lo39 hM hF hpo => ?_)
                obtain ⟨rfl, hw_0, hz9⟩ := hpo
                clear hz
                have hz := hz9; clear hz9
                replace hz : H39.size = h + 198 := hz
                have h_n_38 : PR E (h + 170) (courtW E (h + 170) c0) H39 := hw_0
                replace h_hi := h_hi.kept hF 1 rfl (fsd (by omega))
                replace h_n_2 := h_n_2.kept hF 1 rfl (fsd (by omega))
                replace h_n_8 := h_n_8.kept hF 28 rfl (fsd (by omega))
                replace h_n_13 := h_n_13.kept hF 28 rfl (fsd (by omega))
                replace h_n_18 := h_n_18.kept hF 28 rfl (fsd (by omega))
                replace h_n_23 := h_n_23.kept hF 28 rfl (fsd (by omega))
                replace h_n_28 := h_n_28.kept hF 28 rfl (fsd (by omega))
                replace h_n_33 := h_n_33.kept hF 28 rfl (fsd (by omega))
                show V p l e (rmL 4 225 5040) s m args below meth cd Q 2 H39 lo39 197 4411 46 [(1, .int (zI 6)), (0, .ref h)] [.ref (h + 170), .int (zI 6), .ref (h + 1)]
                refine v_astq X hM h_n_2 0 rfl h_n_38.1 0 rfl (by omega) (by omega) (by omega) (Or.inr (by omega)) dX4_init_46 47 rfl (ws' := [(h + 1, .inl (E 102 3, 8, .inr (.inr (.inr (.inr (va_up (hisA (h + 2) 6) ((6 : Int).toNat) (some (h + 170))))))))]) rfl (fun H40 lo40 hzz hM hF h_n_2 => ?_)
                replace hz : H40.size = h + 198 := hzz.trans hz
                clear hzz
                replace h_hi := h_hi.kept hF 1 rfl (fsd (by omega))
                replace h_n_8 := h_n_8.kept hF 28 rfl (fsd (by omega))
                replace h_n_13 := h_n_13.kept hF 28 rfl (fsd (by omega))
                replace h_n_18 := h_n_18.kept hF 28 rfl (fsd (by omega))
                replace h_n_23 := h_n_23.kept hF 28 rfl (fsd (by omega))
                replace h_n_28 := h_n_28.kept hF 28 rfl (fsd (by omega))
                replace h_n_33 := h_n_33.kept hF 28 rfl (fsd (by omega))
                replace h_n_38 := h_n_38.kept hF 28 rfl (fsd (by omega))
                have eh : va_up (hisA (h + 2) 6) ((6 : Int).toNat) (some (h + 170)) = hisA (h + 2) 7 := hisA_up (b := h + 2) (n := 6)
                rw [eh] at h_n_2
                clear eh
                refine v_iinc X dX4_init_47 50 rfl 0 rfl (by decide) (L' := [(1, .int (zI (6 + 1))), (0, .ref h)]) rfl ?_
                refine v_goto X dX4_init_50 25 (by decide) ?_
                refine V_L (L' := [(1, .int (zI 7)), (0, .ref h)]) (LC (vz (by omega)) (LC rfl rfl)) ?_
                refine v_iload_n X dX4_init_25 26 rfl 0 rfl ?_
                refine v_aload_n X dX4_init_26 27 rfl 1 rfl ?_
                refine v_getf X hM.C h_hi.1 inX4 0 rfl rfl 0 (by decide) kf_X4_11 (fun _ h => h) rfl dX4_init_27 30 rfl ?_
                refine v_alen X hM.C h_n_2.1 0 3 rfl rfl dX4_init_30 31 rfl ?_
                refine v_icmp_ge X (by omega) (by omega) dX4_init_31 34 53 rfl (by decide) (fun c_41 => ?_) (fun c_41 => ?_)
                · skip
                  exfalso; omega
                · skip
                  refine v_aload_n X dX4_init_34 35 rfl 1 rfl ?_
                  refine v_getf X hM.C h_hi.1 inX4 0 rfl rfl 0 (by decide) kf_X4_11 (fun _ h => h) rfl dX4_init_35 38 rfl ?_
                  refine v_iload_n X dX4_init_38 39 rfl 0 rfl ?_
                  refine v_new (ci := 4) X hM ftX0 kc_X4_9 kins_X0 kini_CaseManager_Court rfl dfX0 rfl dX4_init_39 42 rfl (k' := 198) (n' := 4428) rfl rfl (fun o H42 ho hz1 hM hF h_new => ?_)
                  obtain rfl : o = h + 198 := ho.trans hz
                  replace hz : H42.size = h + 199 := hz1
                  clear ho hz1
                  have h_n_43 : PR E (h + 198) [(h + 198, .inr (4, [.int 0, .int 0, .int 0, .int 0, .null, .null, .null, .null, .null, .null, .null, .null, .null, .null, .null, .null, .null]))] H42 := h_new
                  replace h_hi := h_hi.kept hF 1 rfl (fun q _ _ h => h.elim)
                  replace h_n_2 := h_n_2.kept hF 1 rfl (fun q _ _ h => h.elim)
                  replace h_n_8 := h_n_8.kept hF 28 rfl (fun q _ _ h => h.elim)
                  replace h_n_13 := h_n_13.kept hF 28 rfl (fun q _ _ h => h.elim)
                  replace h_n_18 := h_n_18.kept hF 28 rfl (fun q _ _ h => h.elim)
                  replace h_n_23 := h_n_23.kept hF 28 rfl (fun q _ _ h => h.elim)
                  replace h_n_28 := h_n_28.kept hF 28 rfl (fun q _ _ h => h.elim)
                  replace h_n_33 := h_n_33.kept hF 28 rfl (fun q _ _ h => h.elim)
                  replace h_n_38 := h_n_38.kept hF 28 rfl (fun q _ _ h => h.elim)
                  refine v_dup X dX4_init_42 43 rfl rfl ?_
                  refine v_muIN X hM (c_X0_init l E (h + 198)) rfl kvX0_init kiiX0_init rfl kln_X4_24 (As := []) rfl rfl rfl dX4_init_43 46 rfl (k' := 225) (n' := 5040) rfl rfl (fsI (fun q q1 q2 => (Or.inr (by omega)))) ⟨h_n_43, (by omega)⟩ (fun rv H44 lo44 hM hF hpo => ?_)
                  obtain ⟨rfl, hw_0, hz9⟩ := hpo
                  clear hz
                  have hz := hz9; clear hz9
                  replace hz : H44.size = h + 226 := hz
                  have h_n_43 : PR E (h + 198) (courtW E (h + 198) c0) H44 := hw_0
                  replace h_hi := h_hi.kept hF 1 rfl (fsd (by omega))
                  replace h_n_2 := h_n_2.kept hF 1 rfl (fsd (by omega))
                  replace h_n_8 := h_n_8.kept hF 28 rfl (fsd (by omega))
                  replace h_n_13 := h_n_13.kept hF 28 rfl (fsd (by omega))
                  replace h_n_18 := h_n_18.kept hF 28 rfl (fsd (by omega))
                  replace h_n_23 := h_n_23.kept hF 28 rfl (fsd (by omega))
                  replace h_n_28 := h_n_28.kept hF 28 rfl (fsd (by omega))
                  replace h_n_33 := h_n_33.kept hF 28 rfl (fsd (by omega))
                  replace h_n_38 := h_n_38.kept hF 28 rfl (fsd (by omega))
                  show V p l e (rmL 4 225 5040) s m args below meth cd Q 2 H44 lo44 225 5040 46 [(1, .int (zI 7)), (0, .ref h)] [.ref (h + 198), .int (zI 7), .ref (h + 1)]
                  refine v_astq X hM h_n_2 0 rfl h_n_43.1 0 rfl (by omega) (by omega) (by omega) (Or.inr (by omega)) dX4_init_46 47 rfl (ws' := [(h + 1, .inl (E 102 3, 8, .inr (.inr (.inr (.inr (va_up (hisA (h + 2) 7) ((7 : Int).toNat) (some (h + 198))))))))]) rfl (fun H45 lo45 hzz hM hF h_n_2 => ?_)
                  replace hz : H45.size = h + 226 := hzz.trans hz
                  clear hzz
                  replace h_hi := h_hi.kept hF 1 rfl (fsd (by omega))
                  replace h_n_8 := h_n_8.kept hF 28 rfl (fsd (by omega))
                  replace h_n_13 := h_n_13.kept hF 28 rfl (fsd (by omega))
                  replace h_n_18 := h_n_18.kept hF 28 rfl (fsd (by omega))
                  replace h_n_23 := h_n_23.kept hF 28 rfl (fsd (by omega))
                  replace h_n_28 := h_n_28.kept hF 28 rfl (fsd (by omega))
                  replace h_n_33 := h_n_33.kept hF 28 rfl (fsd (by omega))
                  replace h_n_38 := h_n_38.kept hF 28 rfl (fsd (by omega))
                  replace h_n_43 := h_n_43.kept hF 28 rfl (fsd (by omega))
                  have eh : va_up (hisA (h + 2) 7) ((7 : Int).toNat) (some (h + 198)) = hisA (h + 2) 8 := hisA_up (b := h + 2) (n := 7)
                  rw [eh] at h_n_2
                  clear eh
                  refine v_iinc X dX4_init_47 50 rfl 0 rfl (by decide) (L' := [(1, .int (zI (7 + 1))), (0, .ref h)]) rfl ?_
                  refine v_goto X dX4_init_50 25 (by decide) ?_
                  refine V_L (L' := [(1, .int (zI 8)), (0, .ref h)]) (LC (vz (by omega)) (LC rfl rfl)) ?_
                  refine v_iload_n X dX4_init_25 26 rfl 0 rfl ?_
                  refine v_aload_n X dX4_init_26 27 rfl 1 rfl ?_
                  refine v_getf X hM.C h_hi.1 inX4 0 rfl rfl 0 (by decide) kf_X4_11 (fun _ h => h) rfl dX4_init_27 30 rfl ?_
                  refine v_alen X hM.C h_n_2.1 0 3 rfl rfl dX4_init_30 31 rfl ?_
                  refine v_icmp_ge X (by omega) (by omega) dX4_init_31 34 53 rfl (by decide) (fun c_46 => ?_) (fun c_46 => ?_)
                  · skip
                    subst hQ; exact m_vret X hr hlk hM dX4_init_53 rfl ⟨rfl, (by (intro j hj; rcases (show j = 0 ∨ j = 1 ∨ j = 2 ∨ j = 3 ∨ j = 4 ∨ j = 5 ∨ j = 6 ∨ j = 7 by omega) with rfl | rfl | rfl | rfl | rfl | rfl | rfl | rfl; (rw [show h + 2 + 28 * 0 = h + 2 by omega]; exact h_n_8); (rw [show h + 2 + 28 * 1 = h + 30 by omega]; exact h_n_13); (rw [show h + 2 + 28 * 2 = h + 58 by omega]; exact h_n_18); (rw [show h + 2 + 28 * 3 = h + 86 by omega]; exact h_n_23); (rw [show h + 2 + 28 * 4 = h + 114 by omega]; exact h_n_28); (rw [show h + 2 + 28 * 5 = h + 142 by omega]; exact h_n_33); (rw [show h + 2 + 28 * 6 = h + 170 by omega]; exact h_n_38); (rw [show h + 2 + 28 * 7 = h + 198 by omega]; exact h_n_43))), (h_hi.app2 1 rfl rfl h_n_2 rfl), (by omega)⟩
                  · skip
                    exfalso; omega
set_option maxHeartbeats 4000000 in
set_option maxRecDepth 20000 in
theorem c_X9_init (l : Launch) (E : Nat → Nat → Nat) (x : Nat) : Mu l yX9_init cX9_init 1 none 5 333 7100 E [(x, 1)] [.ref x] (fun H => PR E x [(x, .inr (11, [.null, .null, .null, .null, .null, .null, .null, .null, .int 0, .int 0, .int 0, .int 0]))] H ∧ H.size = x + 1) (fun rv H => rv = none ∧ PR E (x + 1) (courtW E (x + 1) c0) H ∧ PR E (x + 29) (courtW E (x + 29) c0) H ∧ PR E (x + 57) (courtW E (x + 57) c0) H ∧ PR E (x + 85) [(x + 85, .inr (7, [.ref (x + 86), .int (zI 0), .int (zI 0)])), (x + 86, .inl (E 102 3, 8, .inr (.inr (.inr (.inr (hisA (x + 87) 8))))))] H ∧ HF E (x + 87) 8 (fun _ => c0) H ∧ PR E (x + 311) (docketW E (x + 311) c0) H ∧ PR E (x + 314) (searchW E (x + 314) c0) H ∧ PR E (x + 319) [(x + 319, .inr (8, [.ref (x + 320), .int (zI 0), .int (zI 0), .ref (x + 322), .ref (x + 324), .ref (x + 326), .ref (x + 328), .ref (x + 330)]))] H ∧ PR E (x + 320) [(x + 320, .inr (1, [.ref (x + 321), .int (zI 0), .int (zI 0), .int (zI 0)]))] H ∧ PR E (x + 321) [(x + 321, .inl (E 102 2, 16, .inl (zA (fun _ => 0))))] H ∧ PR E (x + 322) (prowsW E (x + 322) c0) H ∧ PR E (x + 332) [(x + 332, .inr (1, [.ref (x + 333), .int (zI 0), .int (zI 0), .int (zI 0)]))] H ∧ PR E (x + 333) [(x + 333, .inl (E 102 2, 16, .inl (zA (fun _ => 0))))] H ∧ PR E x [(x, .inr (11, [.ref (x + 1), .ref (x + 29), .ref (x + 57), .ref (x + 85), .ref (x + 311), .ref (x + 314), .ref (x + 319), .ref (x + 332), .int (zI 0), .int (zI (-1)), .int (zI (-1)), .int (zI 0)]))] H ∧ H.size = x + 334) := by
  refine Mu.start (own := RX9) rfl (by decide +kernel) (Nat.le_of_ble_eq_true rfl) ?_
  intro p e s m below meth cd args Q hQ X hr hlk hnm hM hPr
  obtain ⟨h_cm, hz⟩ := hPr
  have hz0 := hz
  refine v_aload_n X dX9_init_0 1 rfl 0 rfl ?_
  refine v_objinit X kl_X9_1 dX9_init_1 4 rfl rfl ?_
  refine v_aload_n X dX9_init_4 5 rfl 0 rfl ?_
  refine v_new (ci := 4) X hM ftX0 kc_X9_7 kins_X0 kini_CaseManager_Court rfl dfX0 rfl dX9_init_5 8 rfl (k' := 1) (n' := 17) rfl rfl (fun o H1 ho hz1 hM hF h_new => ?_)
  obtain rfl : o = x + 1 := ho.trans hz
  replace hz : H1.size = x + 2 := hz1
  clear ho hz1
  have h_n_2 : PR E (x + 1) [(x + 1, .inr (4, [.int 0, .int 0, .int 0, .int 0, .null, .null, .null, .null, .null, .null, .null, .null, .null, .null, .null, .null, .null]))] H1 := h_new
  replace h_cm := h_cm.kept hF 1 rfl (fun q _ _ h => h.elim)
  refine v_dup X dX9_init_8 9 rfl rfl ?_
  refine v_muIN X hM (c_X0_init l E (x + 1)) rfl kvX0_init kiiX0_init rfl kln_X9_9 (As := []) rfl rfl rfl dX9_init_9 12 rfl (k' := 28) (n' := 629) rfl rfl (fsI (fun q q1 q2 => (Or.inr (by omega)))) ⟨h_n_2, (by omega)⟩ (fun rv H3 lo3 hM hF hpo => ?_)
  obtain ⟨rfl, hw_0, hz9⟩ := hpo
  clear hz
  have hz := hz9; clear hz9
  replace hz : H3.size = x + 29 := hz
  have h_n_2 : PR E (x + 1) (courtW E (x + 1) c0) H3 := hw_0
  replace h_cm := h_cm.kept hF 1 rfl (fsd (by omega))
  show V p l e (rmL 5 333 7100) s m args below meth cd Q 1 H3 lo3 28 629 12 [(0, .ref x)] [.ref (x + 1), .ref x]
  refine v_putF X hM h_cm ftX9 0 rfl rfl 0 (by decide) kf_X9_10 (fun _ h => h) rfl hnm rfl rfl rfl (Nat.le_of_ble_eq_true rfl) (Or.inl (fsH (by omega) (by omega))) dX9_init_12 15 rfl (ws' := [(x, .inr (11, [.ref (x + 1), .null, .null, .null, .null, .null, .null, .null, .int 0, .int 0, .int 0, .int 0]))]) rfl (fun H4 lo4 hzz hM hF h_cm => ?_)
  replace hz : H4.size = x + 29 := hzz.trans hz
  clear hzz
  replace h_n_2 := h_n_2.kept hF 28 rfl (fsd (by omega))
  refine v_aload_n X dX9_init_15 16 rfl 0 rfl ?_
  refine v_new (ci := 4) X hM ftX0 kc_X9_7 kins_X0 kini_CaseManager_Court rfl dfX0 rfl dX9_init_16 19 rfl (k' := 29) (n' := 646) rfl rfl (fun o H5 ho hz1 hM hF h_new => ?_)
  obtain rfl : o = x + 29 := ho.trans hz
  replace hz : H5.size = x + 30 := hz1
  clear ho hz1
  have h_n_6 : PR E (x + 29) [(x + 29, .inr (4, [.int 0, .int 0, .int 0, .int 0, .null, .null, .null, .null, .null, .null, .null, .null, .null, .null, .null, .null, .null]))] H5 := h_new
  replace h_cm := h_cm.kept hF 1 rfl (fun q _ _ h => h.elim)
  replace h_n_2 := h_n_2.kept hF 28 rfl (fun q _ _ h => h.elim)
  refine v_dup X dX9_init_19 20 rfl rfl ?_
  refine v_muIN X hM (c_X0_init l E (x + 29)) rfl kvX0_init kiiX0_init rfl kln_X9_9 (As := []) rfl rfl rfl dX9_init_20 23 rfl (k' := 56) (n' := 1258) rfl rfl (fsI (fun q q1 q2 => (Or.inr (by omega)))) ⟨h_n_6, (by omega)⟩ (fun rv H7 lo7 hM hF hpo => ?_)
  obtain ⟨rfl, hw_0, hz9⟩ := hpo
  clear hz
  have hz := hz9; clear hz9
  replace hz : H7.size = x + 57 := hz
  have h_n_6 : PR E (x + 29) (courtW E (x + 29) c0) H7 := hw_0
  replace h_cm := h_cm.kept hF 1 rfl (fsd (by omega))
  replace h_n_2 := h_n_2.kept hF 28 rfl (fsd (by omega))
  show V p l e (rmL 5 333 7100) s m args below meth cd Q 1 H7 lo7 56 1258 23 [(0, .ref x)] [.ref (x + 29), .ref x]
  refine v_putF X hM h_cm ftX9 0 rfl rfl 1 (by decide) kf_X9_16 (fun _ h => h) rfl hnm rfl rfl rfl (Nat.le_of_ble_eq_true rfl) (Or.inl (fsH (by omega) (by omega))) dX9_init_23 26 rfl (ws' := [(x, .inr (11, [.ref (x + 1), .ref (x + 29), .null, .null, .null, .null, .null, .null, .int 0, .int 0, .int 0, .int 0]))]) rfl (fun H8 lo8 hzz hM hF h_cm => ?_)
  replace hz : H8.size = x + 57 := hzz.trans hz
  clear hzz
  replace h_n_2 := h_n_2.kept hF 28 rfl (fsd (by omega))
  replace h_n_6 := h_n_6.kept hF 28 rfl (fsd (by omega))
  refine v_aload_n X dX9_init_26 27 rfl 0 rfl ?_
  refine v_new (ci := 4) X hM ftX0 kc_X9_7 kins_X0 kini_CaseManager_Court rfl dfX0 rfl dX9_init_27 30 rfl (k' := 57) (n' := 1275) rfl rfl (fun o H9 ho hz1 hM hF h_new => ?_)
  obtain rfl : o = x + 57 := ho.trans hz
  replace hz : H9.size = x + 58 := hz1
  clear ho hz1
  have h_n_10 : PR E (x + 57) [(x + 57, .inr (4, [.int 0, .int 0, .int 0, .int 0, .null, .null, .null, .null, .null, .null, .null, .null, .null, .null, .null, .null, .null]))] H9 := h_new
  replace h_cm := h_cm.kept hF 1 rfl (fun q _ _ h => h.elim)
  replace h_n_2 := h_n_2.kept hF 28 rfl (fun q _ _ h => h.elim)
  replace h_n_6 := h_n_6.kept hF 28 rfl (fun q _ _ h => h.elim)
  refine v_dup X dX9_init_30 31 rfl rfl ?_
  refine v_muIN X hM (c_X0_init l E (x + 57)) rfl kvX0_init kiiX0_init rfl kln_X9_9 (As := []) rfl rfl rfl dX9_init_31 34 rfl (k' := 84) (n' := 1887) rfl rfl (fsI (fun q q1 q2 => (Or.inr (by omega)))) ⟨h_n_10, (by omega)⟩ (fun rv H11 lo11 hM hF hpo => ?_)
  obtain ⟨rfl, hw_0, hz9⟩ := hpo
  clear hz
  have hz := hz9; clear hz9
  replace hz : H11.size = x + 85 := hz
  have h_n_10 : PR E (x + 57) (courtW E (x + 57) c0) H11 := hw_0
  replace h_cm := h_cm.kept hF 1 rfl (fsd (by omega))
  replace h_n_2 := h_n_2.kept hF 28 rfl (fsd (by omega))
  replace h_n_6 := h_n_6.kept hF 28 rfl (fsd (by omega))
  show V p l e (rmL 5 333 7100) s m args below meth cd Q 1 H11 lo11 84 1887 34 [(0, .ref x)] [.ref (x + 57), .ref x]
  refine v_putF X hM h_cm ftX9 0 rfl rfl 2 (by decide) kf_X9_19 (fun _ h => h) rfl hnm rfl rfl rfl (Nat.le_of_ble_eq_true rfl) (Or.inl (fsH (by omega) (by omega))) dX9_init_34 37 rfl (ws' := [(x, .inr (11, [.ref (x + 1), .ref (x + 29), .ref (x + 57), .null, .null, .null, .null, .null, .int 0, .int 0, .int 0, .int 0]))]) rfl (fun H12 lo12 hzz hM hF h_cm => ?_)
  replace hz : H12.size = x + 85 := hzz.trans hz
  clear hzz
  replace h_n_2 := h_n_2.kept hF 28 rfl (fsd (by omega))
  replace h_n_6 := h_n_6.kept hF 28 rfl (fsd (by omega))
  replace h_n_10 := h_n_10.kept hF 28 rfl (fsd (by omega))
  refine v_aload_n X dX9_init_37 38 rfl 0 rfl ?_
  refine v_new (ci := 7) X hM ftX4 kc_X9_22 kins_X4 kini_CaseManager_History rfl dfX4 rfl dX9_init_38 41 rfl (k' := 85) (n' := 1890) rfl rfl (fun o H13 ho hz1 hM hF h_new => ?_)
  obtain rfl : o = x + 85 := ho.trans hz
  replace hz : H13.size = x + 86 := hz1
  clear ho hz1
  have h_n_14 : PR E (x + 85) [(x + 85, .inr (7, [.null, .int 0, .int 0]))] H13 := h_new
  replace h_cm := h_cm.kept hF 1 rfl (fun q _ _ h => h.elim)
  replace h_n_2 := h_n_2.kept hF 28 rfl (fun q _ _ h => h.elim)
  replace h_n_6 := h_n_6.kept hF 28 rfl (fun q _ _ h => h.elim)
  replace h_n_10 := h_n_10.kept hF 28 rfl (fun q _ _ h => h.elim)
  refine v_dup X dX9_init_41 42 rfl rfl ?_
  refine v_muI X hM (c_X4_init l E (x + 85)) rfl kvX4_init kiiX4_init rfl kl_X9_24 (As := []) rfl rfl rfl dX9_init_42 45 rfl (k' := 310) (n' := 6930) rfl rfl (fsI (fun q q1 q2 => (Or.inr (by omega)))) ⟨h_n_14, (by omega)⟩ (fun rv H15 lo15 hM hF hpo => ?_)
  obtain ⟨rfl, hp_f_16, hw_0, hz9⟩ := hpo
  clear hz
  have hz := hz9; clear hz9
  replace hz : H15.size = x + 311 := hz
  have h_n_14 : PR E (x + 85) [(x + 85, .inr (7, [.ref ((x + 85) + 1), .int (zI 0), .int (zI 0)])), (x + 86, .inl (E 102 3, 8, .inr (.inr (.inr (.inr (hisA ((x + 85) + 2) 8))))))] H15 := hw_0
  replace h_cm := h_cm.kept hF 1 rfl (fsd (by omega))
  replace h_n_2 := h_n_2.kept hF 28 rfl (fsd (by omega))
  replace h_n_6 := h_n_6.kept hF 28 rfl (fsd (by omega))
  replace h_n_10 := h_n_10.kept hF 28 rfl (fsd (by omega))
  show V p l e (rmL 5 333 7100) s m args below meth cd Q 1 H15 lo15 310 6930 45 [(0, .ref x)] [.ref (x + 85), .ref x]
  have h_hf := hp_f_16
  refine v_putF X hM h_cm ftX9 0 rfl rfl 3 (by decide) kf_X9_25 (fun _ h => h) rfl hnm rfl rfl rfl (Nat.le_of_ble_eq_true rfl) (Or.inl (fsH (by omega) (by omega))) dX9_init_45 48 rfl (ws' := [(x, .inr (11, [.ref (x + 1), .ref (x + 29), .ref (x + 57), .ref (x + 85), .null, .null, .null, .null, .int 0, .int 0, .int 0, .int 0]))]) rfl (fun H17 lo17 hzz hM hF h_cm => ?_)
  replace hz : H17.size = x + 311 := hzz.trans hz
  clear hzz
  replace h_n_2 := h_n_2.kept hF 28 rfl (fsd (by omega))
  replace h_n_6 := h_n_6.kept hF 28 rfl (fsd (by omega))
  replace h_n_10 := h_n_10.kept hF 28 rfl (fsd (by omega))
  replace h_n_14 := h_n_14.kept hF 2 rfl (fsd (by omega))
  replace h_hf := h_hf.kept hF (fsd (by omega))
  refine v_aload_n X dX9_init_48 49 rfl 0 rfl ?_
  refine v_new (ci := 5) X hM ftX1 kc_X9_29 kins_X1 kini_CaseManager_Docket rfl dfX1 rfl dX9_init_49 52 rfl (k' := 311) (n' := 6932) rfl rfl (fun o H18 ho hz1 hM hF h_new => ?_)
  obtain rfl : o = x + 311 := ho.trans hz
  replace hz : H18.size = x + 312 := hz1
  clear ho hz1
  have h_n_19 : PR E (x + 311) [(x + 311, .inr (5, [.null, .int 0]))] H18 := h_new
  replace h_cm := h_cm.kept hF 1 rfl (fun q _ _ h => h.elim)
  replace h_n_2 := h_n_2.kept hF 28 rfl (fun q _ _ h => h.elim)
  replace h_n_6 := h_n_6.kept hF 28 rfl (fun q _ _ h => h.elim)
  replace h_n_10 := h_n_10.kept hF 28 rfl (fun q _ _ h => h.elim)
  replace h_n_14 := h_n_14.kept hF 2 rfl (fun q _ _ h => h.elim)
  replace h_hf := h_hf.kept hF (fun q _ _ h => h.elim)
  refine v_dup X dX9_init_52 53 rfl rfl ?_
  refine v_muIN X hM (c_X1_init l E (x + 311)) rfl kvX1_init kiiX1_init rfl kln_X9_31 (As := []) rfl rfl rfl dX9_init_53 56 rfl (k' := 313) (n' := 6949) rfl rfl (fsI (fun q q1 q2 => (Or.inr (by omega)))) ⟨h_n_19, (by omega)⟩ (fun rv H20 lo20 hM hF hpo => ?_)
  obtain ⟨rfl, hw_0, hz9⟩ := hpo
  clear hz
  have hz := hz9; clear hz9
  replace hz : H20.size = x + 314 := hz
  have h_n_19 : PR E (x + 311) (docketW E (x + 311) c0) H20 := hw_0
  replace h_cm := h_cm.kept hF 1 rfl (fsd (by omega))
  replace h_n_2 := h_n_2.kept hF 28 rfl (fsd (by omega))
  replace h_n_6 := h_n_6.kept hF 28 rfl (fsd (by omega))
  replace h_n_10 := h_n_10.kept hF 28 rfl (fsd (by omega))
  replace h_n_14 := h_n_14.kept hF 2 rfl (fsd (by omega))
  replace h_hf := h_hf.kept hF (fsd (by omega))
  show V p l e (rmL 5 333 7100) s m args below meth cd Q 1 H20 lo20 313 6949 56 [(0, .ref x)] [.ref (x + 311), .ref x]
  refine v_putF X hM h_cm ftX9 0 rfl rfl 4 (by decide) kf_X9_32 (fun _ h => h) rfl hnm rfl rfl rfl (Nat.le_of_ble_eq_true rfl) (Or.inl (fsH (by omega) (by omega))) dX9_init_56 59 rfl (ws' := [(x, .inr (11, [.ref (x + 1), .ref (x + 29), .ref (x + 57), .ref (x + 85), .ref (x + 311), .null, .null, .null, .int 0, .int 0, .int 0, .int 0]))]) rfl (fun H21 lo21 hzz hM hF h_cm => ?_)
  replace hz : H21.size = x + 314 := hzz.trans hz
  clear hzz
  replace h_n_2 := h_n_2.kept hF 28 rfl (fsd (by omega))
  replace h_n_6 := h_n_6.kept hF 28 rfl (fsd (by omega))
  replace h_n_10 := h_n_10.kept hF 28 rfl (fsd (by omega))
  replace h_n_14 := h_n_14.kept hF 2 rfl (fsd (by omega))
  replace h_hf := h_hf.kept hF (fsd (by omega))
  replace h_n_19 := h_n_19.kept hF 3 rfl (fsd (by omega))
  refine v_aload_n X dX9_init_59 60 rfl 0 rfl ?_
  refine v_new (ci := 10) X hM ftX7 kc_X9_36 kins_X7 kini_CaseManager_Search rfl dfX7 rfl dX9_init_60 63 rfl (k' := 314) (n' := 6952) rfl rfl (fun o H22 ho hz1 hM hF h_new => ?_)
  obtain rfl : o = x + 314 := ho.trans hz
  replace hz : H22.size = x + 315 := hz1
  clear ho hz1
  have h_n_23 : PR E (x + 314) [(x + 314, .inr (10, [.null, .null, .int 0]))] H22 := h_new
  replace h_cm := h_cm.kept hF 1 rfl (fun q _ _ h => h.elim)
  replace h_n_2 := h_n_2.kept hF 28 rfl (fun q _ _ h => h.elim)
  replace h_n_6 := h_n_6.kept hF 28 rfl (fun q _ _ h => h.elim)
  replace h_n_10 := h_n_10.kept hF 28 rfl (fun q _ _ h => h.elim)
  replace h_n_14 := h_n_14.kept hF 2 rfl (fun q _ _ h => h.elim)
  replace h_hf := h_hf.kept hF (fun q _ _ h => h.elim)
  replace h_n_19 := h_n_19.kept hF 3 rfl (fun q _ _ h => h.elim)
  refine v_dup X dX9_init_63 64 rfl rfl ?_
  refine v_muIN X hM (c_X7_init l E (x + 314)) rfl kvX7_init kiiX7_init rfl kln_X9_38 (As := []) rfl rfl rfl dX9_init_64 67 rfl (k' := 318) (n' := 6970) rfl rfl (fsI (fun q q1 q2 => (Or.inr (by omega)))) ⟨h_n_23, (by omega)⟩ (fun rv H24 lo24 hM hF hpo => ?_)
  obtain ⟨rfl, hw_0, hz9⟩ := hpo
  clear hz
  have hz := hz9; clear hz9
  replace hz : H24.size = x + 319 := hz
  have h_n_23 : PR E (x + 314) (searchW E (x + 314) c0) H24 := hw_0
  replace h_cm := h_cm.kept hF 1 rfl (fsd (by omega))
  replace h_n_2 := h_n_2.kept hF 28 rfl (fsd (by omega))
  replace h_n_6 := h_n_6.kept hF 28 rfl (fsd (by omega))
  replace h_n_10 := h_n_10.kept hF 28 rfl (fsd (by omega))
  replace h_n_14 := h_n_14.kept hF 2 rfl (fsd (by omega))
  replace h_hf := h_hf.kept hF (fsd (by omega))
  replace h_n_19 := h_n_19.kept hF 3 rfl (fsd (by omega))
  show V p l e (rmL 5 333 7100) s m args below meth cd Q 1 H24 lo24 318 6970 67 [(0, .ref x)] [.ref (x + 314), .ref x]
  refine v_putF X hM h_cm ftX9 0 rfl rfl 5 (by decide) kf_X9_39 (fun _ h => h) rfl hnm rfl rfl rfl (Nat.le_of_ble_eq_true rfl) (Or.inl (fsH (by omega) (by omega))) dX9_init_67 70 rfl (ws' := [(x, .inr (11, [.ref (x + 1), .ref (x + 29), .ref (x + 57), .ref (x + 85), .ref (x + 311), .ref (x + 314), .null, .null, .int 0, .int 0, .int 0, .int 0]))]) rfl (fun H25 lo25 hzz hM hF h_cm => ?_)
  replace hz : H25.size = x + 319 := hzz.trans hz
  clear hzz
  replace h_n_2 := h_n_2.kept hF 28 rfl (fsd (by omega))
  replace h_n_6 := h_n_6.kept hF 28 rfl (fsd (by omega))
  replace h_n_10 := h_n_10.kept hF 28 rfl (fsd (by omega))
  replace h_n_14 := h_n_14.kept hF 2 rfl (fsd (by omega))
  replace h_hf := h_hf.kept hF (fsd (by omega))
  replace h_n_19 := h_n_19.kept hF 3 rfl (fsd (by omega))
  replace h_n_23 := h_n_23.kept hF 5 rfl (fsd (by omega))
  refine v_aload_n X dX9_init_70 71 rfl 0 rfl ?_
  refine v_new (ci := 8) X hM ftX5 kc_X9_43 kins_X5 kini_CaseManager_Program rfl dfX5 rfl dX9_init_71 74 rfl (k' := 319) (n' := 6978) rfl rfl (fun o H26 ho hz1 hM hF h_new => ?_)
  obtain rfl : o = x + 319 := ho.trans hz
  replace hz : H26.size = x + 320 := hz1
  clear ho hz1
  have h_n_27 : PR E (x + 319) [(x + 319, .inr (8, [.null, .int 0, .int 0, .null, .null, .null, .null, .null]))] H26 := h_new
  replace h_cm := h_cm.kept hF 1 rfl (fun q _ _ h => h.elim)
  replace h_n_2 := h_n_2.kept hF 28 rfl (fun q _ _ h => h.elim)
  replace h_n_6 := h_n_6.kept hF 28 rfl (fun q _ _ h => h.elim)
  replace h_n_10 := h_n_10.kept hF 28 rfl (fun q _ _ h => h.elim)
  replace h_n_14 := h_n_14.kept hF 2 rfl (fun q _ _ h => h.elim)
  replace h_hf := h_hf.kept hF (fun q _ _ h => h.elim)
  replace h_n_19 := h_n_19.kept hF 3 rfl (fun q _ _ h => h.elim)
  replace h_n_23 := h_n_23.kept hF 5 rfl (fun q _ _ h => h.elim)
  refine v_dup X dX9_init_74 75 rfl rfl ?_
  refine v_muIN X hM (c_X5_init l E (x + 319)) rfl kvX5_init kiiX5_init rfl kln_X9_45 (As := []) rfl rfl rfl dX9_init_75 78 rfl (k' := 331) (n' := 7043) rfl rfl (fsI (fun q q1 q2 => (Or.inr (by omega)))) ⟨h_n_27, (by omega)⟩ (fun rv H28 lo28 hM hF hpo => ?_)
  obtain ⟨rfl, hw_0, hz9⟩ := hpo
  clear hz
  have hz := hz9; clear hz9
  replace hz : H28.size = x + 332 := hz
  have h_n_27 : PR E (x + 319) [(x + 319, .inr (8, [.ref ((x + 319) + 1), .int (zI 0), .int (zI 0), .ref ((x + 319) + 3), .ref ((x + 319) + 5), .ref ((x + 319) + 7), .ref ((x + 319) + 9), .ref ((x + 319) + 11)])), (x + 320, .inr (1, [.ref ((x + 319) + 2), .int (zI 0), .int (zI 0), .int (zI 0)])), (x + 321, .inl (E 102 2, 16, .inl (zA (fun _ => 0)))), (x + 322, .inr (9, [.ref ((x + 319) + 4)])), (x + 323, .inl (E 102 0, 8, .inl (zA (fun _ => 0)))), (x + 324, .inr (9, [.ref ((x + 319) + 6)])), (x + 325, .inl (E 102 0, 8, .inl (zA (fun _ => 0)))), (x + 326, .inr (9, [.ref ((x + 319) + 8)])), (x + 327, .inl (E 102 0, 8, .inl (zA (fun _ => 0)))), (x + 328, .inr (9, [.ref ((x + 319) + 10)])), (x + 329, .inl (E 102 0, 8, .inl (zA (fun _ => 0)))), (x + 330, .inr (9, [.ref ((x + 319) + 12)])), (x + 331, .inl (E 102 0, 8, .inl (zA (fun _ => 0))))] H28 := hw_0
  replace h_cm := h_cm.kept hF 1 rfl (fsd (by omega))
  replace h_n_2 := h_n_2.kept hF 28 rfl (fsd (by omega))
  replace h_n_6 := h_n_6.kept hF 28 rfl (fsd (by omega))
  replace h_n_10 := h_n_10.kept hF 28 rfl (fsd (by omega))
  replace h_n_14 := h_n_14.kept hF 2 rfl (fsd (by omega))
  replace h_hf := h_hf.kept hF (fsd (by omega))
  replace h_n_19 := h_n_19.kept hF 3 rfl (fsd (by omega))
  replace h_n_23 := h_n_23.kept hF 5 rfl (fsd (by omega))
  show V p l e (rmL 5 333 7100) s m args below meth cd Q 1 H28 lo28 331 7043 78 [(0, .ref x)] [.ref (x + 319), .ref x]
  refine v_putF X hM h_cm ftX9 0 rfl rfl 6 (by decide) kf_X9_46 (fun _ h => h) rfl hnm rfl rfl rfl (Nat.le_of_ble_eq_true rfl) (Or.inl (fsH (by omega) (by omega))) dX9_init_78 81 rfl (ws' := [(x, .inr (11, [.ref (x + 1), .ref (x + 29), .ref (x + 57), .ref (x + 85), .ref (x + 311), .ref (x + 314), .ref (x + 319), .null, .int 0, .int 0, .int 0, .int 0]))]) rfl (fun H29 lo29 hzz hM hF h_cm => ?_)
  replace hz : H29.size = x + 332 := hzz.trans hz
  clear hzz
  replace h_n_2 := h_n_2.kept hF 28 rfl (fsd (by omega))
  replace h_n_6 := h_n_6.kept hF 28 rfl (fsd (by omega))
  replace h_n_10 := h_n_10.kept hF 28 rfl (fsd (by omega))
  replace h_n_14 := h_n_14.kept hF 2 rfl (fsd (by omega))
  replace h_hf := h_hf.kept hF (fsd (by omega))
  replace h_n_19 := h_n_19.kept hF 3 rfl (fsd (by omega))
  replace h_n_23 := h_n_23.kept hF 5 rfl (fsd (by omega))
  replace h_n_27 := h_n_27.kept hF 13 rfl (fsd (by omega))
  refine v_aload_n X dX9_init_81 82 rfl 0 rfl ?_
  refine v_new (ci := 1) X hM ftJ4 kc_X9_50 kins_J4 kini_java_lang_StringBuilder rfl dfJ4 rfl dX9_init_82 85 rfl (k' := 332) (n' := 7047) rfl rfl (fun o H30 ho hz1 hM hF h_new => ?_)
  obtain rfl : o = x + 332 := ho.trans hz
  replace hz : H30.size = x + 333 := hz1
  clear ho hz1
  have h_n_31 : PR E (x + 332) [(x + 332, .inr (1, [.null, .int 0, .int 0, .int 0]))] H30 := h_new
  replace h_cm := h_cm.kept hF 1 rfl (fun q _ _ h => h.elim)
  replace h_n_2 := h_n_2.kept hF 28 rfl (fun q _ _ h => h.elim)
  replace h_n_6 := h_n_6.kept hF 28 rfl (fun q _ _ h => h.elim)
  replace h_n_10 := h_n_10.kept hF 28 rfl (fun q _ _ h => h.elim)
  replace h_n_14 := h_n_14.kept hF 2 rfl (fun q _ _ h => h.elim)
  replace h_hf := h_hf.kept hF (fun q _ _ h => h.elim)
  replace h_n_19 := h_n_19.kept hF 3 rfl (fun q _ _ h => h.elim)
  replace h_n_23 := h_n_23.kept hF 5 rfl (fun q _ _ h => h.elim)
  replace h_n_27 := h_n_27.kept hF 13 rfl (fun q _ _ h => h.elim)
  refine v_dup X dX9_init_85 86 rfl rfl ?_
  refine v_muI X hM (c_J4_init_da8c8 l E (x + 332)) rfl kvJ4_init_da8c8 kiiJ4_init_da8c8 rfl kl_X9_52 (As := []) rfl rfl rfl dX9_init_86 89 rfl (k' := 333) (n' := 7063) rfl rfl (fsI (fun q q1 q2 => (Or.inr (by omega)))) ⟨h_n_31, (by omega)⟩ (fun rv H32 lo32 hM hF hpo => ?_)
  obtain ⟨rfl, hw_0, hz9⟩ := hpo
  clear hz
  have hz := hz9; clear hz9
  replace hz : H32.size = x + 334 := hz
  have h_n_31 : PR E (x + 332) [(x + 332, .inr (1, [.ref ((x + 332) + 1), .int (zI 0), .int (zI 0), .int (zI 0)])), (x + 333, .inl (E 102 2, 16, .inl (zA (fun _ => 0))))] H32 := hw_0
  replace h_cm := h_cm.kept hF 1 rfl (fsd (by omega))
  replace h_n_2 := h_n_2.kept hF 28 rfl (fsd (by omega))
  replace h_n_6 := h_n_6.kept hF 28 rfl (fsd (by omega))
  replace h_n_10 := h_n_10.kept hF 28 rfl (fsd (by omega))
  replace h_n_14 := h_n_14.kept hF 2 rfl (fsd (by omega))
  replace h_hf := h_hf.kept hF (fsd (by omega))
  replace h_n_19 := h_n_19.kept hF 3 rfl (fsd (by omega))
  replace h_n_23 := h_n_23.kept hF 5 rfl (fsd (by omega))
  replace h_n_27 := h_n_27.kept hF 13 rfl (fsd (by omega))
  show V p l e (rmL 5 333 7100) s m args below meth cd Q 1 H32 lo32 333 7063 89 [(0, .ref x)] [.ref (x + 332), .ref x]
  refine v_putF X hM h_cm ftX9 0 rfl rfl 7 (by decide) kf_X9_53 (fun _ h => h) rfl hnm rfl rfl rfl (Nat.le_of_ble_eq_true rfl) (Or.inl (fsH (by omega) (by omega))) dX9_init_89 92 rfl (ws' := [(x, .inr (11, [.ref (x + 1), .ref (x + 29), .ref (x + 57), .ref (x + 85), .ref (x + 311), .ref (x + 314), .ref (x + 319), .ref (x + 332), .int 0, .int 0, .int 0, .int 0]))]) rfl (fun H33 lo33 hzz hM hF h_cm => ?_)
  replace hz : H33.size = x + 334 := hzz.trans hz
  clear hzz
  replace h_n_2 := h_n_2.kept hF 28 rfl (fsd (by omega))
  replace h_n_6 := h_n_6.kept hF 28 rfl (fsd (by omega))
  replace h_n_10 := h_n_10.kept hF 28 rfl (fsd (by omega))
  replace h_n_14 := h_n_14.kept hF 2 rfl (fsd (by omega))
  replace h_hf := h_hf.kept hF (fsd (by omega))
  replace h_n_19 := h_n_19.kept hF 3 rfl (fsd (by omega))
  replace h_n_23 := h_n_23.kept hF 5 rfl (fsd (by omega))
  replace h_n_27 := h_n_27.kept hF 13 rfl (fsd (by omega))
  replace h_n_31 := h_n_31.kept hF 2 rfl (fsd (by omega))
  refine v_aload_n X dX9_init_92 93 rfl 0 rfl ?_
  refine v_iconst X dX9_init_93 94 rfl ?_
  refine v_putf X hM h_cm ftX9 0 rfl rfl 8 (by decide) kf_X9_57 (fun _ h => h) rfl rfl rfl (Nat.le_of_ble_eq_true rfl) (Or.inl (fsH (by omega) (by omega))) dX9_init_94 97 rfl (ws' := [(x, .inr (11, [.ref (x + 1), .ref (x + 29), .ref (x + 57), .ref (x + 85), .ref (x + 311), .ref (x + 314), .ref (x + 319), .ref (x + 332), .int (zI 0), .int 0, .int 0, .int 0]))]) rfl (fun H34 lo34 hzz hM hF h_cm => ?_)
  replace hz : H34.size = x + 334 := hzz.trans hz
  clear hzz
  replace h_n_2 := h_n_2.kept hF 28 rfl (fsd (by omega))
  replace h_n_6 := h_n_6.kept hF 28 rfl (fsd (by omega))
  replace h_n_10 := h_n_10.kept hF 28 rfl (fsd (by omega))
  replace h_n_14 := h_n_14.kept hF 2 rfl (fsd (by omega))
  replace h_hf := h_hf.kept hF (fsd (by omega))
  replace h_n_19 := h_n_19.kept hF 3 rfl (fsd (by omega))
  replace h_n_23 := h_n_23.kept hF 5 rfl (fsd (by omega))
  replace h_n_27 := h_n_27.kept hF 13 rfl (fsd (by omega))
  replace h_n_31 := h_n_31.kept hF 2 rfl (fsd (by omega))
  refine v_aload_n X dX9_init_97 98 rfl 0 rfl ?_
  refine v_iconst X dX9_init_98 99 rfl ?_
  refine v_putf X hM h_cm ftX9 0 rfl rfl 9 (by decide) kf_X9_61 (fun _ h => h) rfl rfl rfl (Nat.le_of_ble_eq_true rfl) (Or.inl (fsH (by omega) (by omega))) dX9_init_99 102 rfl (ws' := [(x, .inr (11, [.ref (x + 1), .ref (x + 29), .ref (x + 57), .ref (x + 85), .ref (x + 311), .ref (x + 314), .ref (x + 319), .ref (x + 332), .int (zI 0), .int (zI (-1)), .int 0, .int 0]))]) rfl (fun H35 lo35 hzz hM hF h_cm => ?_)
  replace hz : H35.size = x + 334 := hzz.trans hz
  clear hzz
  replace h_n_2 := h_n_2.kept hF 28 rfl (fsd (by omega))
  replace h_n_6 := h_n_6.kept hF 28 rfl (fsd (by omega))
  replace h_n_10 := h_n_10.kept hF 28 rfl (fsd (by omega))
  replace h_n_14 := h_n_14.kept hF 2 rfl (fsd (by omega))
  replace h_hf := h_hf.kept hF (fsd (by omega))
  replace h_n_19 := h_n_19.kept hF 3 rfl (fsd (by omega))
  replace h_n_23 := h_n_23.kept hF 5 rfl (fsd (by omega))
  replace h_n_27 := h_n_27.kept hF 13 rfl (fsd (by omega))
  replace h_n_31 := h_n_31.kept hF 2 rfl (fsd (by omega))
  refine v_aload_n X dX9_init_102 103 rfl 0 rfl ?_
  refine v_iconst X dX9_init_103 104 rfl ?_
  refine v_putf X hM h_cm ftX9 0 rfl rfl 10 (by decide) kf_X9_65 (fun _ h => h) rfl rfl rfl (Nat.le_of_ble_eq_true rfl) (Or.inl (fsH (by omega) (by omega))) dX9_init_104 107 rfl (ws' := [(x, .inr (11, [.ref (x + 1), .ref (x + 29), .ref (x + 57), .ref (x + 85), .ref (x + 311), .ref (x + 314), .ref (x + 319), .ref (x + 332), .int (zI 0), .int (zI (-1)), .int (zI (-1)), .int 0]))]) rfl (fun H36 lo36 hzz hM hF h_cm => ?_)
  replace hz : H36.size = x + 334 := hzz.trans hz
  clear hzz
  replace h_n_2 := h_n_2.kept hF 28 rfl (fsd (by omega))
  replace h_n_6 := h_n_6.kept hF 28 rfl (fsd (by omega))
  replace h_n_10 := h_n_10.kept hF 28 rfl (fsd (by omega))
  replace h_n_14 := h_n_14.kept hF 2 rfl (fsd (by omega))
  replace h_hf := h_hf.kept hF (fsd (by omega))
  replace h_n_19 := h_n_19.kept hF 3 rfl (fsd (by omega))
  replace h_n_23 := h_n_23.kept hF 5 rfl (fsd (by omega))
  replace h_n_27 := h_n_27.kept hF 13 rfl (fsd (by omega))
  replace h_n_31 := h_n_31.kept hF 2 rfl (fsd (by omega))
  refine v_aload_n X dX9_init_107 108 rfl 0 rfl ?_
  refine v_iconst X dX9_init_108 109 rfl ?_
  refine v_putf X hM h_cm ftX9 0 rfl rfl 11 (by decide) kf_X9_68 (fun _ h => h) rfl rfl rfl (Nat.le_of_ble_eq_true rfl) (Or.inl (fsH (by omega) (by omega))) dX9_init_109 112 rfl (ws' := [(x, .inr (11, [.ref (x + 1), .ref (x + 29), .ref (x + 57), .ref (x + 85), .ref (x + 311), .ref (x + 314), .ref (x + 319), .ref (x + 332), .int (zI 0), .int (zI (-1)), .int (zI (-1)), .int (zI 0)]))]) rfl (fun H37 lo37 hzz hM hF h_cm => ?_)
  replace hz : H37.size = x + 334 := hzz.trans hz
  clear hzz
  replace h_n_2 := h_n_2.kept hF 28 rfl (fsd (by omega))
  replace h_n_6 := h_n_6.kept hF 28 rfl (fsd (by omega))
  replace h_n_10 := h_n_10.kept hF 28 rfl (fsd (by omega))
  replace h_n_14 := h_n_14.kept hF 2 rfl (fsd (by omega))
  replace h_hf := h_hf.kept hF (fsd (by omega))
  replace h_n_19 := h_n_19.kept hF 3 rfl (fsd (by omega))
  replace h_n_23 := h_n_23.kept hF 5 rfl (fsd (by omega))
  replace h_n_27 := h_n_27.kept hF 13 rfl (fsd (by omega))
  replace h_n_31 := h_n_31.kept hF 2 rfl (fsd (by omega))
  subst hQ; exact m_vret X hr hlk hM dX9_init_112 rfl ⟨rfl, (by exact h_n_2), (by exact h_n_6), (by exact h_n_10), (by exact h_n_14), (by exact h_hf), (by exact h_n_19), (by exact h_n_23), (by exact h_n_27.sub 0 1 rfl rfl), (by exact h_n_27.sub 1 1 rfl rfl), (by exact h_n_27.sub 2 1 rfl rfl), (by exact h_n_27.sub 3 10 rfl rfl), (by exact h_n_31.sub 0 1 rfl rfl), (by exact h_n_31.sub 1 1 rfl rfl), h_cm, (by omega)⟩

