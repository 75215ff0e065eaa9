set_option maxHeartbeats 4000000 in
set_option maxRecDepth 20000 in
theorem c_X5_init (l : Launch) (E : Nat → Nat → Nat) (b : Nat) : Mu l yX5_init cX5_init 1 none 3 12 65 E [(b, 1)] [.ref b] (fun H => PR E b [(b, .inr (8, [.null, .int 0, .int 0, .null, .null, .null, .null, .null]))] H ∧ H.size = b + 1) (fun rv H => rv = none ∧ PR E b [(b, .inr (8, [.ref (b + 1), .int (zI 0), .int (zI 0), .ref (b + 3), .ref (b + 5), .ref (b + 7), .ref (b + 9), .ref (b + 11)])), (b + 1, .inr (1, [.ref (b + 2), .int (zI 0), .int (zI 0), .int (zI 0)])), (b + 2, .inl (E 102 2, 16, .inl (zA (fun _ => 0)))), (b + 3, .inr (9, [.ref (b + 4)])), (b + 4, .inl (E 102 0, 8, .inl (zA (fun _ => 0)))), (b + 5, .inr (9, [.ref (b + 6)])), (b + 6, .inl (E 102 0, 8, .inl (zA (fun _ => 0)))), (b + 7, .inr (9, [.ref (b + 8)])), (b + 8, .inl (E 102 0, 8, .inl (zA (fun _ => 0)))), (b + 9, .inr (9, [.ref (b + 10)])), (b + 10, .inl (E 102 0, 8, .inl (zA (fun _ => 0)))), (b + 11, .inr (9, [.ref (b + 12)])), (b + 12, .inl (E 102 0, 8, .inl (zA (fun _ => 0))))] H ∧ H.size = b + 13) := by
  refine Mu.start (own := RX5) rfl (by decide +kernel) (Nat.le_of_ble_eq_true rfl) ?_
  intro p e s m below meth cd args Q hQ X hr hlk hnm hM hPr
  obtain ⟨h_pg, hz⟩ := hPr
  have hz0 := hz
  refine v_aload_n X dX5_init_0 1 rfl 0 rfl ?_
  refine v_objinit X kl_X5_3 dX5_init_1 4 rfl rfl ?_
  refine v_aload_n X dX5_init_4 5 rfl 0 rfl ?_
  refine v_new (ci := 1) X hM ftJ4 kc_X5_9 kins_J4 kini_java_lang_StringBuilder rfl dfJ4 rfl dX5_init_5 8 rfl (k' := 1) (n' := 4) rfl rfl (fun o H1 ho hz1 hM hF h_new => ?_)
  obtain rfl : o = b + 1 := ho.trans hz
  replace hz : H1.size = b + 2 := hz1
  clear ho hz1
  have h_n_2 : PR E (b + 1) [(b + 1, .inr (1, [.null, .int 0, .int 0, .int 0]))] H1 := h_new
  replace h_pg := h_pg.kept hF 1 rfl (fun q _ _ h => h.elim)
  refine v_dup X dX5_init_8 9 rfl rfl ?_
  refine v_muI X hM (c_J4_init_da8c8 l E (b + 1)) rfl kvJ4_init_da8c8 kiiJ4_init_da8c8 rfl kl_X5_11 (As := []) rfl rfl rfl dX5_init_9 12 rfl (k' := 2) (n' := 20) rfl rfl (fsI (fun q q1 q2 => (Or.inr (by omega)))) ⟨h_n_2, (by omega)⟩ (fun rv H3 lo3 hM hF hpo => ?_)
  obtain ⟨rfl, hw_0, hz9⟩ := hpo
  clear hz
  have hz := hz9; clear hz9
  replace hz : H3.size = b + 3 := hz
  have h_n_2 : PR E (b + 1) [(b + 1, .inr (1, [.ref ((b + 1) + 1), .int (zI 0), .int (zI 0), .int (zI 0)])), (b + 2, .inl (E 102 2, 16, .inl (zA (fun _ => 0))))] H3 := hw_0
  replace h_pg := h_pg.kept hF 1 rfl (fsd (by omega))
  show V p l e (rmL 3 12 65) s m args below meth cd Q 1 H3 lo3 2 20 12 [(0, .ref b)] [.ref (b + 1), .ref b]
  refine v_putF X hM h_pg ftX5 0 rfl rfl 0 (by decide) kf_X5_12 (fun _ h => h) rfl hnm rfl rfl rfl (Nat.le_of_ble_eq_true rfl) (Or.inl (fsH (by omega) (by omega))) dX5_init_12 15 rfl (ws' := [(b, .inr (8, [.ref (b + 1), .int 0, .int 0, .null, .null, .null, .null, .null]))]) rfl (fun H4 lo4 hzz hM hF h_pg => ?_)
  replace hz : H4.size = b + 3 := hzz.trans hz
  clear hzz
  replace h_n_2 := h_n_2.kept hF 2 rfl (fsd (by omega))
  refine v_aload_n X dX5_init_15 16 rfl 0 rfl ?_
  refine v_iconst X dX5_init_16 17 rfl ?_
  refine v_putf X hM h_pg ftX5 0 rfl rfl 1 (by decide) kf_X5_18 (fun _ h => h) rfl rfl rfl (Nat.le_of_ble_eq_true rfl) (Or.inl (fsH (by omega) (by omega))) dX5_init_17 20 rfl (ws' := [(b, .inr (8, [.ref (b + 1), .int (zI 0), .int 0, .null, .null, .null, .null, .null]))]) rfl (fun H5 lo5 hzz hM hF h_pg => ?_)
  replace hz : H5.size = b + 3 := hzz.trans hz
  clear hzz
  replace h_n_2 := h_n_2.kept hF 2 rfl (fsd (by omega))
  refine v_aload_n X dX5_init_20 21 rfl 0 rfl ?_
  refine v_iconst X dX5_init_21 22 rfl ?_
  refine v_putf X hM h_pg ftX5 0 rfl rfl 2 (by decide) kf_X5_22 (fun _ h => h) rfl rfl rfl (Nat.le_of_ble_eq_true rfl) (Or.inl (fsH (by omega) (by omega))) dX5_init_22 25 rfl (ws' := [(b, .inr (8, [.ref (b + 1), .int (zI 0), .int (zI 0), .null, .null, .null, .null, .null]))]) rfl (fun H6 lo6 hzz hM hF h_pg => ?_)
  replace hz : H6.size = b + 3 := hzz.trans hz
  clear hzz
  replace h_n_2 := h_n_2.kept hF 2 rfl (fsd (by omega))
  refine v_aload_n X dX5_init_25 26 rfl 0 rfl ?_
  refine v_new (ci := 9) X hM ftX6 kc_X5_25 kins_X6 kini_CaseManager_Row rfl dfX6 rfl dX5_init_26 29 rfl (k' := 3) (n' := 21) rfl rfl (fun o H7 ho hz1 hM hF h_new => ?_)
  obtain rfl : o = b + 3 := ho.trans hz
  replace hz : H7.size = b + 4 := hz1
  clear ho hz1
  have h_n_8 : PR E (b + 3) [(b + 3, .inr (9, [.null]))] H7 := h_new
  replace h_pg := h_pg.kept hF 1 rfl (fun q _ _ h => h.elim)
  replace h_n_2 := h_n_2.kept hF 2 rfl (fun q _ _ h => h.elim)
  refine v_dup X dX5_init_29 30 rfl rfl ?_
  refine v_bipush X dX5_init_30 32 rfl rfl ?_
  refine v_muI X hM (c_X6_init8 l E (b + 3)) rfl kvX6_init kiiX6_init rfl kl_X5_27 (As := [.int (zI 8)]) rfl rfl rfl dX5_init_32 35 rfl (k' := 4) (n' := 29) rfl rfl (fsI (fun q q1 q2 => (Or.inr (by omega)))) ⟨h_n_8, (by omega)⟩ (fun rv H9 lo9 hM hF hpo => ?_)
  obtain ⟨rfl, hw_0, hz9⟩ := hpo
  clear hz
  have hz := hz9; clear hz9
  replace hz : H9.size = b + 5 := hz
  have h_n_8 : PR E (b + 3) (rowW E (b + 3) 8 (fun _ => 0)) H9 := hw_0
  replace h_pg := h_pg.kept hF 1 rfl (fsd (by omega))
  replace h_n_2 := h_n_2.kept hF 2 rfl (fsd (by omega))
  show V p l e (rmL 3 12 65) s m args below meth cd Q 1 H9 lo9 4 29 35 [(0, .ref b)] [.ref (b + 3), .ref b]
  refine v_putF X hM h_pg ftX5 0 rfl rfl 3 (by decide) kf_X5_30 (fun _ h => h) rfl hnm rfl rfl rfl (Nat.le_of_ble_eq_true rfl) (Or.inl (fsH (by omega) (by omega))) dX5_init_35 38 rfl (ws' := [(b, .inr (8, [.ref (b + 1), .int (zI 0), .int (zI 0), .ref (b + 3), .null, .null, .null, .null]))]) rfl (fun H10 lo10 hzz hM hF h_pg => ?_)
  replace hz : H10.size = b + 5 := hzz.trans hz
  clear hzz
  replace h_n_2 := h_n_2.kept hF 2 rfl (fsd (by omega))
  replace h_n_8 := h_n_8.kept hF 2 rfl (fsd (by omega))
  refine v_aload_n X dX5_init_38 39 rfl 0 rfl ?_
  refine v_new (ci := 9) X hM ftX6 kc_X5_25 kins_X6 kini_CaseManager_Row rfl dfX6 rfl dX5_init_39 42 rfl (k' := 5) (n' := 30) rfl rfl (fun o H11 ho hz1 hM hF h_new => ?_)
  obtain rfl : o = b + 5 := ho.trans hz
  replace hz : H11.size = b + 6 := hz1
  clear ho hz1
  have h_n_12 : PR E (b + 5) [(b + 5, .inr (9, [.null]))] H11 := h_new
  replace h_pg := h_pg.kept hF 1 rfl (fun q _ _ h => h.elim)
  replace h_n_2 := h_n_2.kept hF 2 rfl (fun q _ _ h => h.elim)
  replace h_n_8 := h_n_8.kept hF 2 rfl (fun q _ _ h => h.elim)
  refine v_dup X dX5_init_42 43 rfl rfl ?_
  refine v_bipush X dX5_init_43 45 rfl rfl ?_
  refine v_muI X hM (c_X6_init8 l E (b + 5)) rfl kvX6_init kiiX6_init rfl kl_X5_27 (As := [.int (zI 8)]) rfl rfl rfl dX5_init_45 48 rfl (k' := 6) (n' := 38) rfl rfl (fsI (fun q q1 q2 => (Or.inr (by omega)))) ⟨h_n_12, (by omega)⟩ (fun rv H13 lo13 hM hF hpo => ?_)
  obtain ⟨rfl, hw_0, hz9⟩ := hpo
  clear hz
  have hz := hz9; clear hz9
  replace hz : H13.size = b + 7 := hz
  have h_n_12 : PR E (b + 5) (rowW E (b + 5) 8 (fun _ => 0)) H13 := hw_0
  replace h_pg := h_pg.kept hF 1 rfl (fsd (by omega))
  replace h_n_2 := h_n_2.kept hF 2 rfl (fsd (by omega))
  replace h_n_8 := h_n_8.kept hF 2 rfl (fsd (by omega))
  show V p l e (rmL 3 12 65) s m args below meth cd Q 1 H13 lo13 6 38 48 [(0, .ref b)] [.ref (b + 5), .ref b]
  refine v_putF X hM h_pg ftX5 0 rfl rfl 4 (by decide) kf_X5_34 (fun _ h => h) rfl hnm rfl rfl rfl (Nat.le_of_ble_eq_true rfl) (Or.inl (fsH (by omega) (by omega))) dX5_init_48 51 rfl (ws' := [(b, .inr (8, [.ref (b + 1), .int (zI 0), .int (zI 0), .ref (b + 3), .ref (b + 5), .null, .null, .null]))]) rfl (fun H14 lo14 hzz hM hF h_pg => ?_)
  replace hz : H14.size = b + 7 := hzz.trans hz
  clear hzz
  replace h_n_2 := h_n_2.kept hF 2 rfl (fsd (by omega))
  replace h_n_8 := h_n_8.kept hF 2 rfl (fsd (by omega))
  replace h_n_12 := h_n_12.kept hF 2 rfl (fsd (by omega))
  refine v_aload_n X dX5_init_51 52 rfl 0 rfl ?_
  refine v_new (ci := 9) X hM ftX6 kc_X5_25 kins_X6 kini_CaseManager_Row rfl dfX6 rfl dX5_init_52 55 rfl (k' := 7) (n' := 39) rfl rfl (fun o H15 ho hz1 hM hF h_new => ?_)
  obtain rfl : o = b + 7 := ho.trans hz
  replace hz : H15.size = b + 8 := hz1
  clear ho hz1
  have h_n_16 : PR E (b + 7) [(b + 7, .inr (9, [.null]))] H15 := h_new
  replace h_pg := h_pg.kept hF 1 rfl (fun q _ _ h => h.elim)
  replace h_n_2 := h_n_2.kept hF 2 rfl (fun q _ _ h => h.elim)
  replace h_n_8 := h_n_8.kept hF 2 rfl (fun q _ _ h => h.elim)
  replace h_n_12 := h_n_12.kept hF 2 rfl (fun q _ _ h => h.elim)
  refine v_dup X dX5_init_55 56 rfl rfl ?_
  refine v_bipush X dX5_init_56 58 rfl rfl ?_
  refine v_muI X hM (c_X6_init8 l E (b + 7)) rfl kvX6_init kiiX6_init rfl kl_X5_27 (As := [.int (zI 8)]) rfl rfl rfl dX5_init_58 61 rfl (k' := 8) (n' := 47) rfl rfl (fsI (fun q q1 q2 => (Or.inr (by omega)))) ⟨h_n_16, (by omega)⟩ (fun rv H17 lo17 hM hF hpo => ?_)
  obtain ⟨rfl, hw_0, hz9⟩ := hpo
  clear hz
  have hz := hz9; clear hz9
  replace hz : H17.size = b + 9 := hz
  have h_n_16 : PR E (b + 7) (rowW E (b + 7) 8 (fun _ => 0)) H17 := hw_0
  replace h_pg := h_pg.kept hF 1 rfl (fsd (by omega))
  replace h_n_2 := h_n_2.kept hF 2 rfl (fsd (by omega))
  replace h_n_8 := h_n_8.kept hF 2 rfl (fsd (by omega))
  replace h_n_12 := h_n_12.kept hF 2 rfl (fsd (by omega))
  show V p l e (rmL 3 12 65) s m args below meth cd Q 1 H17 lo17 8 47 61 [(0, .ref b)] [.ref (b + 7), .ref b]
  refine v_putF X hM h_pg ftX5 0 rfl rfl 5 (by decide) kf_X5_37 (fun _ h => h) rfl hnm rfl rfl rfl (Nat.le_of_ble_eq_true rfl) (Or.inl (fsH (by omega) (by omega))) dX5_init_61 64 rfl (ws' := [(b, .inr (8, [.ref (b + 1), .int (zI 0), .int (zI 0), .ref (b + 3), .ref (b + 5), .ref (b + 7), .null, .null]))]) rfl (fun H18 lo18 hzz hM hF h_pg => ?_)
  replace hz : H18.size = b + 9 := hzz.trans hz
  clear hzz
  replace h_n_2 := h_n_2.kept hF 2 rfl (fsd (by omega))
  replace h_n_8 := h_n_8.kept hF 2 rfl (fsd (by omega))
  replace h_n_12 := h_n_12.kept hF 2 rfl (fsd (by omega))
  replace h_n_16 := h_n_16.kept hF 2 rfl (fsd (by omega))
  refine v_aload_n X dX5_init_64 65 rfl 0 rfl ?_
  refine v_new (ci := 9) X hM ftX6 kc_X5_25 kins_X6 kini_CaseManager_Row rfl dfX6 rfl dX5_init_65 68 rfl (k' := 9) (n' := 48) rfl rfl (fun o H19 ho hz1 hM hF h_new => ?_)
  obtain rfl : o = b + 9 := ho.trans hz
  replace hz : H19.size = b + 10 := hz1
  clear ho hz1
  have h_n_20 : PR E (b + 9) [(b + 9, .inr (9, [.null]))] H19 := h_new
  replace h_pg := h_pg.kept hF 1 rfl (fun q _ _ h => h.elim)
  replace h_n_2 := h_n_2.kept hF 2 rfl (fun q _ _ h => h.elim)
  replace h_n_8 := h_n_8.kept hF 2 rfl (fun q _ _ h => h.elim)
  replace h_n_12 := h_n_12.kept hF 2 rfl (fun q _ _ h => h.elim)
  replace h_n_16 := h_n_16.kept hF 2 rfl (fun q _ _ h => h.elim)
  refine v_dup X dX5_init_68 69 rfl rfl ?_
  refine v_bipush X dX5_init_69 71 rfl rfl ?_
  refine v_muI X hM (c_X6_init8 l E (b + 9)) rfl kvX6_init kiiX6_init rfl kl_X5_27 (As := [.int (zI 8)]) rfl rfl rfl dX5_init_71 74 rfl (k' := 10) (n' := 56) rfl rfl (fsI (fun q q1 q2 => (Or.inr (by omega)))) ⟨h_n_20, (by omega)⟩ (fun rv H21 lo21 hM hF hpo => ?_)
  obtain ⟨rfl, hw_0, hz9⟩ := hpo
  clear hz
  have hz := hz9; clear hz9
  replace hz : H21.size = b + 11 := hz
  have h_n_20 : PR E (b + 9) (rowW E (b + 9) 8 (fun _ => 0)) H21 := hw_0
  replace h_pg := h_pg.kept hF 1 rfl (fsd (by omega))
  replace h_n_2 := h_n_2.kept hF 2 rfl (fsd (by omega))
  replace h_n_8 := h_n_8.kept hF 2 rfl (fsd (by omega))
  replace h_n_12 := h_n_12.kept hF 2 rfl (fsd (by omega))
  replace h_n_16 := h_n_16.kept hF 2 rfl (fsd (by omega))
  show V p l e (rmL 3 12 65) s m args below meth cd Q 1 H21 lo21 10 56 74 [(0, .ref b)] [.ref (b + 9), .ref b]
  refine v_putF X hM h_pg ftX5 0 rfl rfl 6 (by decide) kf_X5_40 (fun _ h => h) rfl hnm rfl rfl rfl (Nat.le_of_ble_eq_true rfl) (Or.inl (fsH (by omega) (by omega))) dX5_init_74 77 rfl (ws' := [(b, .inr (8, [.ref (b + 1), .int (zI 0), .int (zI 0), .ref (b + 3), .ref (b + 5), .ref (b + 7), .ref (b + 9), .null]))]) rfl (fun H22 lo22 hzz hM hF h_pg => ?_)
  replace hz : H22.size = b + 11 := hzz.trans hz
  clear hzz
  replace h_n_2 := h_n_2.kept hF 2 rfl (fsd (by omega))
  replace h_n_8 := h_n_8.kept hF 2 rfl (fsd (by omega))
  replace h_n_12 := h_n_12.kept hF 2 rfl (fsd (by omega))
  replace h_n_16 := h_n_16.kept hF 2 rfl (fsd (by omega))
  replace h_n_20 := h_n_20.kept hF 2 rfl (fsd (by omega))
  refine v_aload_n X dX5_init_77 78 rfl 0 rfl ?_
  refine v_new (ci := 9) X hM ftX6 kc_X5_25 kins_X6 kini_CaseManager_Row rfl dfX6 rfl dX5_init_78 81 rfl (k' := 11) (n' := 57) rfl rfl (fun o H23 ho hz1 hM hF h_new => ?_)
  obtain rfl : o = b + 11 := ho.trans hz
  replace hz : H23.size = b + 12 := hz1
  clear ho hz1
  have h_n_24 : PR E (b + 11) [(b + 11, .inr (9, [.null]))] H23 := h_new
  replace h_pg := h_pg.kept hF 1 rfl (fun q _ _ h => h.elim)
  replace h_n_2 := h_n_2.kept hF 2 rfl (fun q _ _ h => h.elim)
  replace h_n_8 := h_n_8.kept hF 2 rfl (fun q _ _ h => h.elim)
  replace h_n_12 := h_n_12.kept hF 2 rfl (fun q _ _ h => h.elim)
  replace h_n_16 := h_n_16.kept hF 2 rfl (fun q _ _ h => h.elim)
  replace h_n_20 := h_n_20.kept hF 2 rfl (fun q _ _ h => h.elim)
  refine v_dup X dX5_init_81 82 rfl rfl ?_
  refine v_bipush X dX5_init_82 84 rfl rfl ?_
  refine v_muI X hM (c_X6_init8 l E (b + 11)) rfl kvX6_init kiiX6_init rfl kl_X5_27 (As := [.int (zI 8)]) rfl rfl rfl dX5_init_84 87 rfl (k' := 12) (n' := 65) rfl rfl (fsI (fun q q1 q2 => (Or.inr (by omega)))) ⟨h_n_24, (by omega)⟩ (fun rv H25 lo25 hM hF hpo => ?_)
  obtain ⟨rfl, hw_0, hz9⟩ := hpo
  clear hz
  have hz := hz9; clear hz9
  replace hz : H25.size = b + 13 := hz
  have h_n_24 : PR E (b + 11) (rowW E (b + 11) 8 (fun _ => 0)) H25 := hw_0
  replace h_pg := h_pg.kept hF 1 rfl (fsd (by omega))
  replace h_n_2 := h_n_2.kept hF 2 rfl (fsd (by omega))
  replace h_n_8 := h_n_8.kept hF 2 rfl (fsd (by omega))
  replace h_n_12 := h_n_12.kept hF 2 rfl (fsd (by omega))
  replace h_n_16 := h_n_16.kept hF 2 rfl (fsd (by omega))
  replace h_n_20 := h_n_20.kept hF 2 rfl (fsd (by omega))
  show V p l e (rmL 3 12 65) s m args below meth cd Q 1 H25 lo25 12 65 87 [(0, .ref b)] [.ref (b + 11), .ref b]
  refine v_putF X hM h_pg ftX5 0 rfl rfl 7 (by decide) kf_X5_43 (fun _ h => h) rfl hnm rfl rfl rfl (Nat.le_of_ble_eq_true rfl) (Or.inl (fsH (by omega) (by omega))) dX5_init_87 90 rfl (ws' := [(b, .inr (8, [.ref (b + 1), .int (zI 0), .int (zI 0), .ref (b + 3), .ref (b + 5), .ref (b + 7), .ref (b + 9), .ref (b + 11)]))]) rfl (fun H26 lo26 hzz hM hF h_pg => ?_)
  replace hz : H26.size = b + 13 := hzz.trans hz
  clear hzz
  replace h_n_2 := h_n_2.kept hF 2 rfl (fsd (by omega))
  replace h_n_8 := h_n_8.kept hF 2 rfl (fsd (by omega))
  replace h_n_12 := h_n_12.kept hF 2 rfl (fsd (by omega))
  replace h_n_16 := h_n_16.kept hF 2 rfl (fsd (by omega))
  replace h_n_20 := h_n_20.kept hF 2 rfl (fsd (by omega))
  replace h_n_24 := h_n_24.kept hF 2 rfl (fsd (by omega))
  subst hQ; exact m_vret X hr hlk hM dX5_init_90 rfl ⟨rfl, ((((((h_pg.app2 1 rfl rfl h_n_2 rfl).app2 3 rfl rfl h_n_8 rfl).app2 5 rfl rfl h_n_12 rfl).app2 7 rfl rfl h_n_16 rfl).app2 9 rfl rfl h_n_20 rfl).app2 11 rfl rfl h_n_24 rfl), (by omega)⟩

