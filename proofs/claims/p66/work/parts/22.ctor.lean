def c0 : Nat → Int → Int := fun _ _ => 0
set_option maxHeartbeats 4000000 in
set_option maxRecDepth 20000 in
theorem c_X6_init16 (l : Launch) (E : Nat → Nat → Nat) (b : Nat) : Mu l yX6_init cX6_init 2 none 1 1 16 E [(b, 1)] [.ref b, .int (zI 16)] (fun H => PR E b [(b, .inr (9, [.null]))] H ∧ H.size = b + 1) (fun rv H => rv = none ∧ PR E b (rowW E b 16 (fun _ => 0)) H ∧ H.size = b + 2) := by
  refine Mu.start (own := RX6) rfl (by decide +kernel) (Nat.le_of_ble_eq_true rfl) ?_
  intro p e s m below meth cd args Q hQ X hr hlk hnm hM hPr
  obtain ⟨h_r, hz⟩ := hPr
  have hz0 := hz
  refine v_aload_n X dX6_init_0 1 rfl 0 rfl ?_
  refine v_objinit X kl_X6_1 dX6_init_1 4 rfl rfl ?_
  refine v_aload_n X dX6_init_4 5 rfl 0 rfl ?_
  refine v_iload_n X dX6_init_5 6 rfl 1 rfl ?_
  refine v_if_ge X (by omega) dX6_init_6 9 13 rfl (by decide) (fun c_1 => ?_) (fun c_1 => ?_)
  · skip
    refine v_iload_n X dX6_init_13 14 rfl 1 rfl ?_
    refine v_newa X hM (atype := .int) rfl rfl karr_int 0 rfl (N := 16) rfl (by decide) (by decide) ⟨Nat.le_of_ble_eq_true rfl, Nat.le_of_ble_eq_true rfl⟩ dX6_init_14 16 rfl (k' := 1) (n' := 16) rfl rfl (fun o H2 ho hz1 hM hF h_new => ?_)
    obtain rfl : o = b + 1 := ho.trans hz
    replace hz : H2.size = b + 2 := hz1
    clear ho hz1
    have h_n_3 : PR E (b + 1) [(b + 1, .inl (E 102 0, 16, .inl (zA (fun _ => 0))))] H2 := h_new
    replace h_r := h_r.kept hF 1 rfl (fun q _ _ h => h.elim)
    refine v_putF X hM h_r ftX6 0 rfl rfl 0 (by decide) kf_X6_7 (fun _ h => h) rfl hnm rfl rfl rfl (Nat.le_of_ble_eq_true rfl) (Or.inl (fsH (by omega) (by omega))) dX6_init_16 19 rfl (ws' := [(b, .inr (9, [.ref (b + 1)]))]) rfl (fun H4 lo4 hzz hM hF h_r => ?_)
    replace hz : H4.size = b + 2 := hzz.trans hz
    clear hzz
    replace h_n_3 := h_n_3.kept hF 1 rfl (fsd (by omega))
    subst hQ; exact m_vret X hr hlk hM dX6_init_19 rfl ⟨rfl, (h_r.app2 1 rfl rfl h_n_3 rfl), (by omega)⟩
  · skip
    exfalso; omega
set_option maxHeartbeats 4000000 in
set_option maxRecDepth 20000 in
theorem c_X6_init96 (l : Launch) (E : Nat → Nat → Nat) (b : Nat) : Mu l yX6_init cX6_init 2 none 1 1 96 E [(b, 1)] [.ref b, .int (zI 96)] (fun H => PR E b [(b, .inr (9, [.null]))] H ∧ H.size = b + 1) (fun rv H => rv = none ∧ PR E b (rowW E b 96 (fun _ => 0)) H ∧ H.size = b + 2) := by
  refine Mu.start (own := RX6) rfl (by decide +kernel) (Nat.le_of_ble_eq_true rfl) ?_
  intro p e s m below meth cd args Q hQ X hr hlk hnm hM hPr
  obtain ⟨h_r, hz⟩ := hPr
  have hz0 := hz
  refine v_aload_n X dX6_init_0 1 rfl 0 rfl ?_
  refine v_objinit X kl_X6_1 dX6_init_1 4 rfl rfl ?_
  refine v_aload_n X dX6_init_4 5 rfl 0 rfl ?_
  refine v_iload_n X dX6_init_5 6 rfl 1 rfl ?_
  refine v_if_ge X (by omega) dX6_init_6 9 13 rfl (by decide) (fun c_1 => ?_) (fun c_1 => ?_)
  · skip
    refine v_iload_n X dX6_init_13 14 rfl 1 rfl ?_
    refine v_newa X hM (atype := .int) rfl rfl karr_int 0 rfl (N := 96) rfl (by decide) (by decide) ⟨Nat.le_of_ble_eq_true rfl, Nat.le_of_ble_eq_true rfl⟩ dX6_init_14 16 rfl (k' := 1) (n' := 96) rfl rfl (fun o H2 ho hz1 hM hF h_new => ?_)
    obtain rfl : o = b + 1 := ho.trans hz
    replace hz : H2.size = b + 2 := hz1
    clear ho hz1
    have h_n_3 : PR E (b + 1) [(b + 1, .inl (E 102 0, 96, .inl (zA (fun _ => 0))))] H2 := h_new
    replace h_r := h_r.kept hF 1 rfl (fun q _ _ h => h.elim)
    refine v_putF X hM h_r ftX6 0 rfl rfl 0 (by decide) kf_X6_7 (fun _ h => h) rfl hnm rfl rfl rfl (Nat.le_of_ble_eq_true rfl) (Or.inl (fsH (by omega) (by omega))) dX6_init_16 19 rfl (ws' := [(b, .inr (9, [.ref (b + 1)]))]) rfl (fun H4 lo4 hzz hM hF h_r => ?_)
    replace hz : H4.size = b + 2 := hzz.trans hz
    clear hzz
    replace h_n_3 := h_n_3.kept hF 1 rfl (fsd (by omega))
    subst hQ; exact m_vret X hr hlk hM dX6_init_19 rfl ⟨rfl, (h_r.app2 1 rfl rfl h_n_3 rfl), (by omega)⟩
  · skip
    exfalso; omega
set_option maxHeartbeats 4000000 in
set_option maxRecDepth 20000 in
theorem c_X6_init128 (l : Launch) (E : Nat → Nat → Nat) (b : Nat) : Mu l yX6_init cX6_init 2 none 1 1 128 E [(b, 1)] [.ref b, .int (zI 128)] (fun H => PR E b [(b, .inr (9, [.null]))] H ∧ H.size = b + 1) (fun rv H => rv = none ∧ PR E b (rowW E b 128 (fun _ => 0)) H ∧ H.size = b + 2) := by
  refine Mu.start (own := RX6) rfl (by decide +kernel) (Nat.le_of_ble_eq_true rfl) ?_
  intro p e s m below meth cd args Q hQ X hr hlk hnm hM hPr
  obtain ⟨h_r, hz⟩ := hPr
  have hz0 := hz
  refine v_aload_n X dX6_init_0 1 rfl 0 rfl ?_
  refine v_objinit X kl_X6_1 dX6_init_1 4 rfl rfl ?_
  refine v_aload_n X dX6_init_4 5 rfl 0 rfl ?_
  refine v_iload_n X dX6_init_5 6 rfl 1 rfl ?_
  refine v_if_ge X (by omega) dX6_init_6 9 13 rfl (by decide) (fun c_1 => ?_) (fun c_1 => ?_)
  · skip
    refine v_iload_n X dX6_init_13 14 rfl 1 rfl ?_
    refine v_newa X hM (atype := .int) rfl rfl karr_int 0 rfl (N := 128) rfl (by decide) (by decide) ⟨Nat.le_of_ble_eq_true rfl, Nat.le_of_ble_eq_true rfl⟩ dX6_init_14 16 rfl (k' := 1) (n' := 128) rfl rfl (fun o H2 ho hz1 hM hF h_new => ?_)
    obtain rfl : o = b + 1 := ho.trans hz
    replace hz : H2.size = b + 2 := hz1
    clear ho hz1
    have h_n_3 : PR E (b + 1) [(b + 1, .inl (E 102 0, 128, .inl (zA (fun _ => 0))))] H2 := h_new
    replace h_r := h_r.kept hF 1 rfl (fun q _ _ h => h.elim)
    refine v_putF X hM h_r ftX6 0 rfl rfl 0 (by decide) kf_X6_7 (fun _ h => h) rfl hnm rfl rfl rfl (Nat.le_of_ble_eq_true rfl) (Or.inl (fsH (by omega) (by omega))) dX6_init_16 19 rfl (ws' := [(b, .inr (9, [.ref (b + 1)]))]) rfl (fun H4 lo4 hzz hM hF h_r => ?_)
    replace hz : H4.size = b + 2 := hzz.trans hz
    clear hzz
    replace h_n_3 := h_n_3.kept hF 1 rfl (fsd (by omega))
    subst hQ; exact m_vret X hr hlk hM dX6_init_19 rfl ⟨rfl, (h_r.app2 1 rfl rfl h_n_3 rfl), (by omega)⟩
  · skip
    exfalso; omega
set_option maxHeartbeats 4000000 in
set_option maxRecDepth 20000 in
theorem c_X6_init8 (l : Launch) (E : Nat → Nat → Nat) (b : Nat) : Mu l yX6_init cX6_init 2 none 1 1 8 E [(b, 1)] [.ref b, .int (zI 8)] (fun H => PR E b [(b, .inr (9, [.null]))] H ∧ H.size = b + 1) (fun rv H => rv = none ∧ PR E b (rowW E b 8 (fun _ => 0)) H ∧ H.size = b + 2) := by
  refine Mu.start (own := RX6) rfl (by decide +kernel) (Nat.le_of_ble_eq_true rfl) ?_
  intro p e s m below meth cd args Q hQ X hr hlk hnm hM hPr
  obtain ⟨h_r, hz⟩ := hPr
  have hz0 := hz
  refine v_aload_n X dX6_init_0 1 rfl 0 rfl ?_
  refine v_objinit X kl_X6_1 dX6_init_1 4 rfl rfl ?_
  refine v_aload_n X dX6_init_4 5 rfl 0 rfl ?_
  refine v_iload_n X dX6_init_5 6 rfl 1 rfl ?_
  refine v_if_ge X (by omega) dX6_init_6 9 13 rfl (by decide) (fun c_1 => ?_) (fun c_1 => ?_)
  · skip
    refine v_iload_n X dX6_init_13 14 rfl 1 rfl ?_
    refine v_newa X hM (atype := .int) rfl rfl karr_int 0 rfl (N := 8) rfl (by decide) (by decide) ⟨Nat.le_of_ble_eq_true rfl, Nat.le_of_ble_eq_true rfl⟩ dX6_init_14 16 rfl (k' := 1) (n' := 8) rfl rfl (fun o H2 ho hz1 hM hF h_new => ?_)
    obtain rfl : o = b + 1 := ho.trans hz
    replace hz : H2.size = b + 2 := hz1
    clear ho hz1
    have h_n_3 : PR E (b + 1) [(b + 1, .inl (E 102 0, 8, .inl (zA (fun _ => 0))))] H2 := h_new
    replace h_r := h_r.kept hF 1 rfl (fun q _ _ h => h.elim)
    refine v_putF X hM h_r ftX6 0 rfl rfl 0 (by decide) kf_X6_7 (fun _ h => h) rfl hnm rfl rfl rfl (Nat.le_of_ble_eq_true rfl) (Or.inl (fsH (by omega) (by omega))) dX6_init_16 19 rfl (ws' := [(b, .inr (9, [.ref (b + 1)]))]) rfl (fun H4 lo4 hzz hM hF h_r => ?_)
    replace hz : H4.size = b + 2 := hzz.trans hz
    clear hzz
    replace h_n_3 := h_n_3.kept hF 1 rfl (fsd (by omega))
    subst hQ; exact m_vret X hr hlk hM dX6_init_19 rfl ⟨rfl, (h_r.app2 1 rfl rfl h_n_3 rfl), (by omega)⟩
  · skip
    exfalso; omega
set_option maxHeartbeats 4000000 in
set_option maxRecDepth 20000 in
theorem c_X6_init6 (l : Launch) (E : Nat → Nat → Nat) (b : Nat) : Mu l yX6_init cX6_init 2 none 1 1 6 E [(b, 1)] [.ref b, .int (zI 6)] (fun H => PR E b [(b, .inr (9, [.null]))] H ∧ H.size = b + 1) (fun rv H => rv = none ∧ PR E b (rowW E b 6 (fun _ => 0)) H ∧ H.size = b + 2) := by
  refine Mu.start (own := RX6) rfl (by decide +kernel) (Nat.le_of_ble_eq_true rfl) ?_
  intro p e s m below meth cd args Q hQ X hr hlk hnm hM hPr
  obtain ⟨h_r, hz⟩ := hPr
  have hz0 := hz
  refine v_aload_n X dX6_init_0 1 rfl 0 rfl ?_
  refine v_objinit X kl_X6_1 dX6_init_1 4 rfl rfl ?_
  refine v_aload_n X dX6_init_4 5 rfl 0 rfl ?_
  refine v_iload_n X dX6_init_5 6 rfl 1 rfl ?_
  refine v_if_ge X (by omega) dX6_init_6 9 13 rfl (by decide) (fun c_1 => ?_) (fun c_1 => ?_)
  · skip
    refine v_iload_n X dX6_init_13 14 rfl 1 rfl ?_
    refine v_newa X hM (atype := .int) rfl rfl karr_int 0 rfl (N := 6) rfl (by decide) (by decide) ⟨Nat.le_of_ble_eq_true rfl, Nat.le_of_ble_eq_true rfl⟩ dX6_init_14 16 rfl (k' := 1) (n' := 6) rfl rfl (fun o H2 ho hz1 hM hF h_new => ?_)
    obtain rfl : o = b + 1 := ho.trans hz
    replace hz : H2.size = b + 2 := hz1
    clear ho hz1
    have h_n_3 : PR E (b + 1) [(b + 1, .inl (E 102 0, 6, .inl (zA (fun _ => 0))))] H2 := h_new
    replace h_r := h_r.kept hF 1 rfl (fun q _ _ h => h.elim)
    refine v_putF X hM h_r ftX6 0 rfl rfl 0 (by decide) kf_X6_7 (fun _ h => h) rfl hnm rfl rfl rfl (Nat.le_of_ble_eq_true rfl) (Or.inl (fsH (by omega) (by omega))) dX6_init_16 19 rfl (ws' := [(b, .inr (9, [.ref (b + 1)]))]) rfl (fun H4 lo4 hzz hM hF h_r => ?_)
    replace hz : H4.size = b + 2 := hzz.trans hz
    clear hzz
    replace h_n_3 := h_n_3.kept hF 1 rfl (fsd (by omega))
    subst hQ; exact m_vret X hr hlk hM dX6_init_19 rfl ⟨rfl, (h_r.app2 1 rfl rfl h_n_3 rfl), (by omega)⟩
  · skip
    exfalso; omega
set_option maxHeartbeats 4000000 in
set_option maxRecDepth 20000 in
theorem c_X3_init (l : Launch) (E : Nat → Nat → Nat) (b : Nat) : Mu l yX3_init cX3_init 1 none 2 2 9 E [(b, 1)] [.ref b] (fun H => PR E b [(b, .inr (6, [.null]))] H ∧ H.size = b + 1) (fun rv H => rv = none ∧ PR E b (groupsW E b (fun _ => 0)) H ∧ H.size = b + 3) := by
  refine Mu.start (own := RX3) rfl (by decide +kernel) (Nat.le_of_ble_eq_true rfl) ?_
  intro p e s m below meth cd args Q hQ X hr hlk hnm hM hPr
  obtain ⟨h_g, hz⟩ := hPr
  have hz0 := hz
  refine v_aload_n X dX3_init_0 1 rfl 0 rfl ?_
  refine v_objinit X kl_X3_3 dX3_init_1 4 rfl rfl ?_
  refine v_aload_n X dX3_init_4 5 rfl 0 rfl ?_
  refine v_new (ci := 9) X hM ftX6 kc_X3_9 kins_X6 kini_CaseManager_Row rfl dfX6 rfl dX3_init_5 8 rfl (k' := 1) (n' := 1) rfl rfl (fun o H1 ho hz1 hM hF h_new => ?_)
  obtain rfl : o = b + 1 := ho.trans hz
  replace hz : H1.size = b + 2 := hz1
  clear ho hz1
  have h_n_2 : PR E (b + 1) [(b + 1, .inr (9, [.null]))] H1 := h_new
  replace h_g := h_g.kept hF 1 rfl (fun q _ _ h => h.elim)
  refine v_dup X dX3_init_8 9 rfl rfl ?_
  refine v_bipush X dX3_init_9 11 rfl rfl ?_
  refine v_muI X hM (c_X6_init8 l E (b + 1)) rfl kvX6_init kiiX6_init rfl kl_X3_11 (As := [.int (zI 8)]) rfl rfl rfl dX3_init_11 14 rfl (k' := 2) (n' := 9) rfl rfl (fsI (fun q q1 q2 => (Or.inr (by omega)))) ⟨h_n_2, (by omega)⟩ (fun rv H3 lo3 hM hF hpo => ?_)
  obtain ⟨rfl, hw_0, hz9⟩ := hpo
  clear hz
  have hz := hz9; clear hz9
  replace hz : H3.size = b + 3 := hz
  have h_n_2 : PR E (b + 1) (rowW E (b + 1) 8 (fun _ => 0)) H3 := hw_0
  replace h_g := h_g.kept hF 1 rfl (fsd (by omega))
  show V p l e (rmL 2 2 9) s m args below meth cd Q 1 H3 lo3 2 9 14 [(0, .ref b)] [.ref (b + 1), .ref b]
  refine v_putF X hM h_g ftX3 0 rfl rfl 0 (by decide) kf_X3_14 (fun _ h => h) rfl hnm rfl rfl rfl (Nat.le_of_ble_eq_true rfl) (Or.inl (fsH (by omega) (by omega))) dX3_init_14 17 rfl (ws' := [(b, .inr (6, [.ref (b + 1)]))]) rfl (fun H4 lo4 hzz hM hF h_g => ?_)
  replace hz : H4.size = b + 3 := hzz.trans hz
  clear hzz
  replace h_n_2 := h_n_2.kept hF 2 rfl (fsd (by omega))
  subst hQ; exact m_vret X hr hlk hM dX3_init_17 rfl ⟨rfl, (h_g.app2 1 rfl rfl h_n_2 rfl), (by omega)⟩
set_option maxHeartbeats 4000000 in
set_option maxRecDepth 20000 in
theorem c_X0_init (l : Launch) (E : Nat → Nat → Nat) (b : Nat) : Mu l yX0_init cX0_init 1 none 3 27 612 E [(b, 1)] [.ref b] (fun H => PR E b [(b, .inr (4, [.int 0, .int 0, .int 0, .int 0, .null, .null, .null, .null, .null, .null, .null, .null, .null, .null, .null, .null, .null]))] H ∧ H.size = b + 1) (fun rv H => rv = none ∧ PR E b (courtW E b c0) H ∧ H.size = b + 28) := by
  refine Mu.start (own := RX0) rfl (by decide +kernel) (Nat.le_of_ble_eq_true rfl) ?_
  intro p e s m below meth cd args Q hQ X hr hlk hnm hM hPr
  obtain ⟨h_co, hz⟩ := hPr
  have hz0 := hz
  refine v_aload_n X dX0_init_0 1 rfl 0 rfl ?_
  refine v_objinit X kl_X0_3 dX0_init_1 4 rfl rfl ?_
  refine v_aload_n X dX0_init_4 5 rfl 0 rfl ?_
  refine v_iconst X dX0_init_5 6 rfl ?_
  refine v_putf X hM h_co ftX0 0 rfl rfl 0 (by decide) kf_X0_9 (fun _ h => h) rfl rfl rfl (Nat.le_of_ble_eq_true rfl) (Or.inl (fsH (by omega) (by omega))) dX0_init_6 9 rfl (ws' := [(b, .inr (4, [.int (zI 0), .int 0, .int 0, .int 0, .null, .null, .null, .null, .null, .null, .null, .null, .null, .null, .null, .null, .null]))]) rfl (fun H1 lo1 hzz hM hF h_co => ?_)
  replace hz : H1.size = b + 1 := hzz.trans hz
  clear hzz
  refine v_aload_n X dX0_init_9 10 rfl 0 rfl ?_
  refine v_iconst X dX0_init_10 11 rfl ?_
  refine v_putf X hM h_co ftX0 0 rfl rfl 1 (by decide) kf_X0_15 (fun _ h => h) rfl rfl rfl (Nat.le_of_ble_eq_true rfl) (Or.inl (fsH (by omega) (by omega))) dX0_init_11 14 rfl (ws' := [(b, .inr (4, [.int (zI 0), .int (zI 0), .int 0, .int 0, .null, .null, .null, .null, .null, .null, .null, .null, .null, .null, .null, .null, .null]))]) rfl (fun H2 lo2 hzz hM hF h_co => ?_)
  replace hz : H2.size = b + 1 := hzz.trans hz
  clear hzz
  refine v_aload_n X dX0_init_14 15 rfl 0 rfl ?_
  refine v_iconst X dX0_init_15 16 rfl ?_
  refine v_putf X hM h_co ftX0 0 rfl rfl 2 (by decide) kf_X0_18 (fun _ h => h) rfl rfl rfl (Nat.le_of_ble_eq_true rfl) (Or.inl (fsH (by omega) (by omega))) dX0_init_16 19 rfl (ws' := [(b, .inr (4, [.int (zI 0), .int (zI 0), .int (zI 0), .int 0, .null, .null, .null, .null, .null, .null, .null, .null, .null, .null, .null, .null, .null]))]) rfl (fun H3 lo3 hzz hM hF h_co => ?_)
  replace hz : H3.size = b + 1 := hzz.trans hz
  clear hzz
  refine v_aload_n X dX0_init_19 20 rfl 0 rfl ?_
  refine v_iconst X dX0_init_20 21 rfl ?_
  refine v_putf X hM h_co ftX0 0 rfl rfl 3 (by decide) kf_X0_21 (fun _ h => h) rfl rfl rfl (Nat.le_of_ble_eq_true rfl) (Or.inl (fsH (by omega) (by omega))) dX0_init_21 24 rfl (ws' := [(b, .inr (4, [.int (zI 0), .int (zI 0), .int (zI 0), .int (zI 0), .null, .null, .null, .null, .null, .null, .null, .null, .null, .null, .null, .null, .null]))]) rfl (fun H4 lo4 hzz hM hF h_co => ?_)
  replace hz : H4.size = b + 1 := hzz.trans hz
  clear hzz
  refine v_aload_n X dX0_init_24 25 rfl 0 rfl ?_
  refine v_new (ci := 9) X hM ftX6 kc_X0_24 kins_X6 kini_CaseManager_Row rfl dfX6 rfl dX0_init_25 28 rfl (k' := 1) (n' := 1) rfl rfl (fun o H5 ho hz1 hM hF h_new => ?_)
  obtain rfl : o = b + 1 := ho.trans hz
  replace hz : H5.size = b + 2 := hz1
  clear ho hz1
  have h_n_6 : PR E (b + 1) [(b + 1, .inr (9, [.null]))] H5 := h_new
  replace h_co := h_co.kept hF 1 rfl (fun q _ _ h => h.elim)
  refine v_dup X dX0_init_28 29 rfl rfl ?_
  refine v_bipush X dX0_init_29 31 rfl rfl ?_
  refine v_muI X hM (c_X6_init16 l E (b + 1)) rfl kvX6_init kiiX6_init rfl kl_X0_26 (As := [.int (zI 16)]) rfl rfl rfl dX0_init_31 34 rfl (k' := 2) (n' := 17) rfl rfl (fsI (fun q q1 q2 => (Or.inr (by omega)))) ⟨h_n_6, (by omega)⟩ (fun rv H7 lo7 hM hF hpo => ?_)
  obtain ⟨rfl, hw_0, hz9⟩ := hpo
  clear hz
  have hz := hz9; clear hz9
  replace hz : H7.size = b + 3 := hz
  have h_n_6 : PR E (b + 1) (rowW E (b + 1) 16 (fun _ => 0)) H7 := hw_0
  replace h_co := h_co.kept hF 1 rfl (fsd (by omega))
  have h_co : PR E b [(b, .inr (4, [.int (zI 0), .int (zI 0), .int (zI 0), .int (zI 0), .null, .null, .null, .null, .null, .null, .null, .null, .null, .null, .null, .null, .null])), (b + 1, .inr (9, [.ref (b + 2)])), (b + 2, .inl (E 102 0, 16, .inl (zA (fun _ => 0))))] H7 := h_co.app2 1 rfl rfl h_n_6 rfl
  show V p l e (rmL 3 27 612) s m args below meth cd Q 1 H7 lo7 2 17 34 [(0, .ref b)] [.ref (b + 1), .ref b]
  refine v_putF X hM h_co ftX0 0 rfl rfl 4 (by decide) kf_X0_29 (fun _ h => h) rfl hnm rfl rfl rfl (Nat.le_of_ble_eq_true rfl) (Or.inl (fsH (by omega) (by omega))) dX0_init_34 37 rfl (ws' := [(b, .inr (4, [.int (zI 0), .int (zI 0), .int (zI 0), .int (zI 0), .ref (b + 1), .null, .null, .null, .null, .null, .null, .null, .null, .null, .null, .null, .null])), (b + 1, .inr (9, [.ref (b + 2)])), (b + 2, .inl (E 102 0, 16, .inl (zA (fun _ => 0))))]) rfl (fun H8 lo8 hzz hM hF h_co => ?_)
  replace hz : H8.size = b + 3 := hzz.trans hz
  clear hzz
  refine v_aload_n X dX0_init_37 38 rfl 0 rfl ?_
  refine v_new (ci := 9) X hM ftX6 kc_X0_24 kins_X6 kini_CaseManager_Row rfl dfX6 rfl dX0_init_38 41 rfl (k' := 3) (n' := 18) rfl rfl (fun o H9 ho hz1 hM hF h_new => ?_)
  obtain rfl : o = b + 3 := ho.trans hz
  replace hz : H9.size = b + 4 := hz1
  clear ho hz1
  have h_n_10 : PR E (b + 3) [(b + 3, .inr (9, [.null]))] H9 := h_new
  replace h_co := h_co.kept hF 3 rfl (fun q _ _ h => h.elim)
  refine v_dup X dX0_init_41 42 rfl rfl ?_
  refine v_bipush X dX0_init_42 44 rfl rfl ?_
  refine v_muI X hM (c_X6_init16 l E (b + 3)) rfl kvX6_init kiiX6_init rfl kl_X0_26 (As := [.int (zI 16)]) rfl rfl rfl dX0_init_44 47 rfl (k' := 4) (n' := 34) rfl rfl (fsI (fun q q1 q2 => (Or.inr (by omega)))) ⟨h_n_10, (by omega)⟩ (fun rv H11 lo11 hM hF hpo => ?_)
  obtain ⟨rfl, hw_0, hz9⟩ := hpo
  clear hz
  have hz := hz9; clear hz9
  replace hz : H11.size = b + 5 := hz
  have h_n_10 : PR E (b + 3) (rowW E (b + 3) 16 (fun _ => 0)) H11 := hw_0
  replace h_co := h_co.kept hF 3 rfl (fsd (by omega))
  have h_co : PR E b [(b, .inr (4, [.int (zI 0), .int (zI 0), .int (zI 0), .int (zI 0), .ref (b + 1), .null, .null, .null, .null, .null, .null, .null, .null, .null, .null, .null, .null])), (b + 1, .inr (9, [.ref (b + 2)])), (b + 2, .inl (E 102 0, 16, .inl (zA (fun _ => 0)))), (b + 3, .inr (9, [.ref (b + 4)])), (b + 4, .inl (E 102 0, 16, .inl (zA (fun _ => 0))))] H11 := h_co.app2 3 rfl rfl h_n_10 rfl
  show V p l e (rmL 3 27 612) s m args below meth cd Q 1 H11 lo11 4 34 47 [(0, .ref b)] [.ref (b + 3), .ref b]
  refine v_putF X hM h_co ftX0 0 rfl rfl 5 (by decide) kf_X0_33 (fun _ h => h) rfl hnm rfl rfl rfl (Nat.le_of_ble_eq_true rfl) (Or.inl (fsH (by omega) (by omega))) dX0_init_47 50 rfl (ws' := [(b, .inr (4, [.int (zI 0), .int (zI 0), .int (zI 0), .int (zI 0), .ref (b + 1), .ref (b + 3), .null, .null, .null, .null, .null, .null, .null, .null, .null, .null, .null])), (b + 1, .inr (9, [.ref (b + 2)])), (b + 2, .inl (E 102 0, 16, .inl (zA (fun _ => 0)))), (b + 3, .inr (9, [.ref (b + 4)])), (b + 4, .inl (E 102 0, 16, .inl (zA (fun _ => 0))))]) rfl (fun H12 lo12 hzz hM hF h_co => ?_)
  replace hz : H12.size = b + 5 := hzz.trans hz
  clear hzz
  refine v_aload_n X dX0_init_50 51 rfl 0 rfl ?_
  refine v_new (ci := 9) X hM ftX6 kc_X0_24 kins_X6 kini_CaseManager_Row rfl dfX6 rfl dX0_init_51 54 rfl (k' := 5) (n' := 35) rfl rfl (fun o H13 ho hz1 hM hF h_new => ?_)
  obtain rfl : o = b + 5 := ho.trans hz
  replace hz : H13.size = b + 6 := hz1
  clear ho hz1
  have h_n_14 : PR E (b + 5) [(b + 5, .inr (9, [.null]))] H13 := h_new
  replace h_co := h_co.kept hF 5 rfl (fun q _ _ h => h.elim)
  refine v_dup X dX0_init_54 55 rfl rfl ?_
  refine v_bipush X dX0_init_55 57 rfl rfl ?_
  refine v_muI X hM (c_X6_init16 l E (b + 5)) rfl kvX6_init kiiX6_init rfl kl_X0_26 (As := [.int (zI 16)]) rfl rfl rfl dX0_init_57 60 rfl (k' := 6) (n' := 51) rfl rfl (fsI (fun q q1 q2 => (Or.inr (by omega)))) ⟨h_n_14, (by omega)⟩ (fun rv H15 lo15 hM hF hpo => ?_)
  obtain ⟨rfl, hw_0, hz9⟩ := hpo
  clear hz
  have hz := hz9; clear hz9
  replace hz : H15.size = b + 7 := hz
  have h_n_14 : PR E (b + 5) (rowW E (b + 5) 16 (fun _ => 0)) H15 := hw_0
  replace h_co := h_co.kept hF 5 rfl (fsd (by omega))
  have h_co : PR E b [(b, .inr (4, [.int (zI 0), .int (zI 0), .int (zI 0), .int (zI 0), .ref (b + 1), .ref (b + 3), .null, .null, .null, .null, .null, .null, .null, .null, .null, .null, .null])), (b + 1, .inr (9, [.ref (b + 2)])), (b + 2, .inl (E 102 0, 16, .inl (zA (fun _ => 0)))), (b + 3, .inr (9, [.ref (b + 4)])), (b + 4, .inl (E 102 0, 16, .inl (zA (fun _ => 0)))), (b + 5, .inr (9, [.ref (b + 6)])), (b + 6, .inl (E 102 0, 16, .inl (zA (fun _ => 0))))] H15 := h_co.app2 5 rfl rfl h_n_14 rfl
  show V p l e (rmL 3 27 612) s m args below meth cd Q 1 H15 lo15 6 51 60 [(0, .ref b)] [.ref (b + 5), .ref b]
  refine v_putF X hM h_co ftX0 0 rfl rfl 6 (by decide) kf_X0_36 (fun _ h => h) rfl hnm rfl rfl rfl (Nat.le_of_ble_eq_true rfl) (Or.inl (fsH (by omega) (by omega))) dX0_init_60 63 rfl (ws' := [(b, .inr (4, [.int (zI 0), .int (zI 0), .int (zI 0), .int (zI 0), .ref (b + 1), .ref (b + 3), .ref (b + 5), .null, .null, .null, .null, .null, .null, .null, .null, .null, .null])), (b + 1, .inr (9, [.ref (b + 2)])), (b + 2, .inl (E 102 0, 16, .inl (zA (fun _ => 0)))), (b + 3, .inr (9, [.ref (b + 4)])), (b + 4, .inl (E 102 0, 16, .inl (zA (fun _ => 0)))), (b + 5, .inr (9, [.ref (b + 6)])), (b + 6, .inl (E 102 0, 16, .inl (zA (fun _ => 0))))]) rfl (fun H16 lo16 hzz hM hF h_co => ?_)
  replace hz : H16.size = b + 7 := hzz.trans hz
  clear hzz
  refine v_aload_n X dX0_init_63 64 rfl 0 rfl ?_
  refine v_new (ci := 9) X hM ftX6 kc_X0_24 kins_X6 kini_CaseManager_Row rfl dfX6 rfl dX0_init_64 67 rfl (k' := 7) (n' := 52) rfl rfl (fun o H17 ho hz1 hM hF h_new => ?_)
  obtain rfl : o = b + 7 := ho.trans hz
  replace hz : H17.size = b + 8 := hz1
  clear ho hz1
  have h_n_18 : PR E (b + 7) [(b + 7, .inr (9, [.null]))] H17 := h_new
  replace h_co := h_co.kept hF 7 rfl (fun q _ _ h => h.elim)
  refine v_dup X dX0_init_67 68 rfl rfl ?_
  refine v_bipush X dX0_init_68 70 rfl rfl ?_
  refine v_muI X hM (c_X6_init16 l E (b + 7)) rfl kvX6_init kiiX6_init rfl kl_X0_26 (As := [.int (zI 16)]) rfl rfl rfl dX0_init_70 73 rfl (k' := 8) (n' := 68) rfl rfl (fsI (fun q q1 q2 => (Or.inr (by omega)))) ⟨h_n_18, (by omega)⟩ (fun rv H19 lo19 hM hF hpo => ?_)
  obtain ⟨rfl, hw_0, hz9⟩ := hpo
  clear hz
  have hz := hz9; clear hz9
  replace hz : H19.size = b + 9 := hz
  have h_n_18 : PR E (b + 7) (rowW E (b + 7) 16 (fun _ => 0)) H19 := hw_0
  replace h_co := h_co.kept hF 7 rfl (fsd (by omega))
  have h_co : PR E b [(b, .inr (4, [.int (zI 0), .int (zI 0), .int (zI 0), .int (zI 0), .ref (b + 1), .ref (b + 3), .ref (b + 5), .null, .null, .null, .null, .null, .null, .null, .null, .null, .null])), (b + 1, .inr (9, [.ref (b + 2)])), (b + 2, .inl (E 102 0, 16, .inl (zA (fun _ => 0)))), (b + 3, .inr (9, [.ref (b + 4)])), (b + 4, .inl (E 102 0, 16, .inl (zA (fun _ => 0)))), (b + 5, .inr (9, [.ref (b + 6)])), (b + 6, .inl (E 102 0, 16, .inl (zA (fun _ => 0)))), (b + 7, .inr (9, [.ref (b + 8)])), (b + 8, .inl (E 102 0, 16, .inl (zA (fun _ => 0))))] H19 := h_co.app2 7 rfl rfl h_n_18 rfl
  show V p l e (rmL 3 27 612) s m args below meth cd Q 1 H19 lo19 8 68 73 [(0, .ref b)] [.ref (b + 7), .ref b]
  refine v_putF X hM h_co ftX0 0 rfl rfl 7 (by decide) kf_X0_39 (fun _ h => h) rfl hnm rfl rfl rfl (Nat.le_of_ble_eq_true rfl) (Or.inl (fsH (by omega) (by omega))) dX0_init_73 76 rfl (ws' := [(b, .inr (4, [.int (zI 0), .int (zI 0), .int (zI 0), .int (zI 0), .ref (b + 1), .ref (b + 3), .ref (b + 5), .ref (b + 7), .null, .null, .null, .null, .null, .null, .null, .null, .null])), (b + 1, .inr (9, [.ref (b + 2)])), (b + 2, .inl (E 102 0, 16, .inl (zA (fun _ => 0)))), (b + 3, .inr (9, [.ref (b + 4)])), (b + 4, .inl (E 102 0, 16, .inl (zA (fun _ => 0)))), (b + 5, .inr (9, [.ref (b + 6)])), (b + 6, .inl (E 102 0, 16, .inl (zA (fun _ => 0)))), (b + 7, .inr (9, [.ref (b + 8)])), (b + 8, .inl (E 102 0, 16, .inl (zA (fun _ => 0))))]) rfl (fun H20 lo20 hzz hM hF h_co => ?_)
  replace hz : H20.size = b + 9 := hzz.trans hz
  clear hzz
  refine v_aload_n X dX0_init_76 77 rfl 0 rfl ?_
  refine v_new (ci := 9) X hM ftX6 kc_X0_24 kins_X6 kini_CaseManager_Row rfl dfX6 rfl dX0_init_77 80 rfl (k' := 9) (n' := 69) rfl rfl (fun o H21 ho hz1 hM hF h_new => ?_)
  obtain rfl : o = b + 9 := ho.trans hz
  replace hz : H21.size = b + 10 := hz1
  clear ho hz1
  have h_n_22 : PR E (b + 9) [(b + 9, .inr (9, [.null]))] H21 := h_new
  replace h_co := h_co.kept hF 9 rfl (fun q _ _ h => h.elim)
  refine v_dup X dX0_init_80 81 rfl rfl ?_
  refine v_bipush X dX0_init_81 83 rfl rfl ?_
  refine v_muI X hM (c_X6_init16 l E (b + 9)) rfl kvX6_init kiiX6_init rfl kl_X0_26 (As := [.int (zI 16)]) rfl rfl rfl dX0_init_83 86 rfl (k' := 10) (n' := 85) rfl rfl (fsI (fun q q1 q2 => (Or.inr (by omega)))) ⟨h_n_22, (by omega)⟩ (fun rv H23 lo23 hM hF hpo => ?_)
  obtain ⟨rfl, hw_0, hz9⟩ := hpo
  clear hz
  have hz := hz9; clear hz9
  replace hz : H23.size = b + 11 := hz
  have h_n_22 : PR E (b + 9) (rowW E (b + 9) 16 (fun _ => 0)) H23 := hw_0
  replace h_co := h_co.kept hF 9 rfl (fsd (by omega))
  have h_co : PR E b [(b, .inr (4, [.int (zI 0), .int (zI 0), .int (zI 0), .int (zI 0), .ref (b + 1), .ref (b + 3), .ref (b + 5), .ref (b + 7), .null, .null, .null, .null, .null, .null, .null, .null, .null])), (b + 1, .inr (9, [.ref (b + 2)])), (b + 2, .inl (E 102 0, 16, .inl (zA (fun _ => 0)))), (b + 3, .inr (9, [.ref (b + 4)])), (b + 4, .inl (E 102 0, 16, .inl (zA (fun _ => 0)))), (b + 5, .inr (9, [.ref (b + 6)])), (b + 6, .inl (E 102 0, 16, .inl (zA (fun _ => 0)))), (b + 7, .inr (9, [.ref (b + 8)])), (b + 8, .inl (E 102 0, 16, .inl (zA (fun _ => 0)))), (b + 9, .inr (9, [.ref (b + 10)])), (b + 10, .inl (E 102 0, 16, .inl (zA (fun _ => 0))))] H23 := h_co.app2 9 rfl rfl h_n_22 rfl
  show V p l e (rmL 3 27 612) s m args below meth cd Q 1 H23 lo23 10 85 86 [(0, .ref b)] [.ref (b + 9), .ref b]
  refine v_putF X hM h_co ftX0 0 rfl rfl 8 (by decide) kf_X0_42 (fun _ h => h) rfl hnm rfl rfl rfl (Nat.le_of_ble_eq_true rfl) (Or.inl (fsH (by omega) (by omega))) dX0_init_86 89 rfl (ws' := [(b, .inr (4, [.int (zI 0), .int (zI 0), .int (zI 0), .int (zI 0), .ref (b + 1), .ref (b + 3), .ref (b + 5), .ref (b + 7), .ref (b + 9), .null, .null, .null, .null, .null, .null, .null, .null])), (b + 1, .inr (9, [.ref (b + 2)])), (b + 2, .inl (E 102 0, 16, .inl (zA (fun _ => 0)))), (b + 3, .inr (9, [.ref (b + 4)])), (b + 4, .inl (E 102 0, 16, .inl (zA (fun _ => 0)))), (b + 5, .inr (9, [.ref (b + 6)])), (b + 6, .inl (E 102 0, 16, .inl (zA (fun _ => 0)))), (b + 7, .inr (9, [.ref (b + 8)])), (b + 8, .inl (E 102 0, 16, .inl (zA (fun _ => 0)))), (b + 9, .inr (9, [.ref (b + 10)])), (b + 10, .inl (E 102 0, 16, .inl (zA (fun _ => 0))))]) rfl (fun H24 lo24 hzz hM hF h_co => ?_)
  replace hz : H24.size = b + 11 := hzz.trans hz
  clear hzz
  refine v_aload_n X dX0_init_89 90 rfl 0 rfl ?_
  refine v_new (ci := 9) X hM ftX6 kc_X0_24 kins_X6 kini_CaseManager_Row rfl dfX6 rfl dX0_init_90 93 rfl (k' := 11) (n' := 86) rfl rfl (fun o H25 ho hz1 hM hF h_new => ?_)
  obtain rfl : o = b + 11 := ho.trans hz
  replace hz : H25.size = b + 12 := hz1
  clear ho hz1
  have h_n_26 : PR E (b + 11) [(b + 11, .inr (9, [.null]))] H25 := h_new
  replace h_co := h_co.kept hF 11 rfl (fun q _ _ h => h.elim)
  refine v_dup X dX0_init_93 94 rfl rfl ?_
  refine v_bipush X dX0_init_94 96 rfl rfl ?_
  refine v_muI X hM (c_X6_init16 l E (b + 11)) rfl kvX6_init kiiX6_init rfl kl_X0_26 (As := [.int (zI 16)]) rfl rfl rfl dX0_init_96 99 rfl (k' := 12) (n' := 102) rfl rfl (fsI (fun q q1 q2 => (Or.inr (by omega)))) ⟨h_n_26, (by omega)⟩ (fun rv H27 lo27 hM hF hpo => ?_)
  obtain ⟨rfl, hw_0, hz9⟩ := hpo
  clear hz
  have hz := hz9; clear hz9
  replace hz : H27.size = b + 13 := hz
  have h_n_26 : PR E (b + 11) (rowW E (b + 11) 16 (fun _ => 0)) H27 := hw_0
  replace h_co := h_co.kept hF 11 rfl (fsd (by omega))
  have h_co : PR E b [(b, .inr (4, [.int (zI 0), .int (zI 0), .int (zI 0), .int (zI 0), .ref (b + 1), .ref (b + 3), .ref (b + 5), .ref (b + 7), .ref (b + 9), .null, .null, .null, .null, .null, .null, .null, .null])), (b + 1, .inr (9, [.ref (b + 2)])), (b + 2, .inl (E 102 0, 16, .inl (zA (fun _ => 0)))), (b + 3, .inr (9, [.ref (b + 4)])), (b + 4, .inl (E 102 0, 16, .inl (zA (fun _ => 0)))), (b + 5, .inr (9, [.ref (b + 6)])), (b + 6, .inl (E 102 0, 16, .inl (zA (fun _ => 0)))), (b + 7, .inr (9, [.ref (b + 8)])), (b + 8, .inl (E 102 0, 16, .inl (zA (fun _ => 0)))), (b + 9, .inr (9, [.ref (b + 10)])), (b + 10, .inl (E 102 0, 16, .inl (zA (fun _ => 0)))), (b + 11, .inr (9, [.ref (b + 12)])), (b + 12, .inl (E 102 0, 16, .inl (zA (fun _ => 0))))] H27 := h_co.app2 11 rfl rfl h_n_26 rfl
  show V p l e (rmL 3 27 612) s m args below meth cd Q 1 H27 lo27 12 102 99 [(0, .ref b)] [.ref (b + 11), .ref b]
  refine v_putF X hM h_co ftX0 0 rfl rfl 9 (by decide) kf_X0_45 (fun _ h => h) rfl hnm rfl rfl rfl (Nat.le_of_ble_eq_true rfl) (Or.inl (fsH (by omega) (by omega))) dX0_init_99 102 rfl (ws' := [(b, .inr (4, [.int (zI 0), .int (zI 0), .int (zI 0), .int (zI 0), .ref (b + 1), .ref (b + 3), .ref (b + 5), .ref (b + 7), .ref (b + 9), .ref (b + 11), .null, .null, .null, .null, .null, .null, .null])), (b + 1, .inr (9, [.ref (b + 2)])), (b + 2, .inl (E 102 0, 16, .inl (zA (fun _ => 0)))), (b + 3, .inr (9, [.ref (b + 4)])), (b + 4, .inl (E 102 0, 16, .inl (zA (fun _ => 0)))), (b + 5, .inr (9, [.ref (b + 6)])), (b + 6, .inl (E 102 0, 16, .inl (zA (fun _ => 0)))), (b + 7, .inr (9, [.ref (b + 8)])), (b + 8, .inl (E 102 0, 16, .inl (zA (fun _ => 0)))), (b + 9, .inr (9, [.ref (b + 10)])), (b + 10, .inl (E 102 0, 16, .inl (zA (fun _ => 0)))), (b + 11, .inr (9, [.ref (b + 12)])), (b + 12, .inl (E 102 0, 16, .inl (zA (fun _ => 0))))]) rfl (fun H28 lo28 hzz hM hF h_co => ?_)
  replace hz : H28.size = b + 13 := hzz.trans hz
  clear hzz
  refine v_aload_n X dX0_init_102 103 rfl 0 rfl ?_
  refine v_new (ci := 9) X hM ftX6 kc_X0_24 kins_X6 kini_CaseManager_Row rfl dfX6 rfl dX0_init_103 106 rfl (k' := 13) (n' := 103) rfl rfl (fun o H29 ho hz1 hM hF h_new => ?_)
  obtain rfl : o = b + 13 := ho.trans hz
  replace hz : H29.size = b + 14 := hz1
  clear ho hz1
  have h_n_30 : PR E (b + 13) [(b + 13, .inr (9, [.null]))] H29 := h_new
  replace h_co := h_co.kept hF 13 rfl (fun q _ _ h => h.elim)
  refine v_dup X dX0_init_106 107 rfl rfl ?_
  refine v_bipush X dX0_init_107 109 rfl rfl ?_
  refine v_muI X hM (c_X6_init96 l E (b + 13)) rfl kvX6_init kiiX6_init rfl kl_X0_26 (As := [.int (zI 96)]) rfl rfl rfl dX0_init_109 112 rfl (k' := 14) (n' := 199) rfl rfl (fsI (fun q q1 q2 => (Or.inr (by omega)))) ⟨h_n_30, (by omega)⟩ (fun rv H31 lo31 hM hF hpo => ?_)
  obtain ⟨rfl, hw_0, hz9⟩ := hpo
  clear hz
  have hz := hz9; clear hz9
  replace hz : H31.size = b + 15 := hz
  have h_n_30 : PR E (b + 13) (rowW E (b + 13) 96 (fun _ => 0)) H31 := hw_0
  replace h_co := h_co.kept hF 13 rfl (fsd (by omega))
  have h_co : PR E b [(b, .inr (4, [.int (zI 0), .int (zI 0), .int (zI 0), .int (zI 0), .ref (b + 1), .ref (b + 3), .ref (b + 5), .ref (b + 7), .ref (b + 9), .ref (b + 11), .null, .null, .null, .null, .null, .null, .null])), (b + 1, .inr (9, [.ref (b + 2)])), (b + 2, .inl (E 102 0, 16, .inl (zA (fun _ => 0)))), (b + 3, .inr (9, [.ref (b + 4)])), (b + 4, .inl (E 102 0, 16, .inl (zA (fun _ => 0)))), (b + 5, .inr (9, [.ref (b + 6)])), (b + 6, .inl (E 102 0, 16, .inl (zA (fun _ => 0)))), (b + 7, .inr (9, [.ref (b + 8)])), (b + 8, .inl (E 102 0, 16, .inl (zA (fun _ => 0)))), (b + 9, .inr (9, [.ref (b + 10)])), (b + 10, .inl (E 102 0, 16, .inl (zA (fun _ => 0)))), (b + 11, .inr (9, [.ref (b + 12)])), (b + 12, .inl (E 102 0, 16, .inl (zA (fun _ => 0)))), (b + 13, .inr (9, [.ref (b + 14)])), (b + 14, .inl (E 102 0, 96, .inl (zA (fun _ => 0))))] H31 := h_co.app2 13 rfl rfl h_n_30 rfl
  show V p l e (rmL 3 27 612) s m args below meth cd Q 1 H31 lo31 14 199 112 [(0, .ref b)] [.ref (b + 13), .ref b]
  refine v_putF X hM h_co ftX0 0 rfl rfl 10 (by decide) kf_X0_48 (fun _ h => h) rfl hnm rfl rfl rfl (Nat.le_of_ble_eq_true rfl) (Or.inl (fsH (by omega) (by omega))) dX0_init_112 115 rfl (ws' := [(b, .inr (4, [.int (zI 0), .int (zI 0), .int (zI 0), .int (zI 0), .ref (b + 1), .ref (b + 3), .ref (b + 5), .ref (b + 7), .ref (b + 9), .ref (b + 11), .ref (b + 13), .null, .null, .null, .null, .null, .null])), (b + 1, .inr (9, [.ref (b + 2)])), (b + 2, .inl (E 102 0, 16, .inl (zA (fun _ => 0)))), (b + 3, .inr (9, [.ref (b + 4)])), (b + 4, .inl (E 102 0, 16, .inl (zA (fun _ => 0)))), (b + 5, .inr (9, [.ref (b + 6)])), (b + 6, .inl (E 102 0, 16, .inl (zA (fun _ => 0)))), (b + 7, .inr (9, [.ref (b + 8)])), (b + 8, .inl (E 102 0, 16, .inl (zA (fun _ => 0)))), (b + 9, .inr (9, [.ref (b + 10)])), (b + 10, .inl (E 102 0, 16, .inl (zA (fun _ => 0)))), (b + 11, .inr (9, [.ref (b + 12)])), (b + 12, .inl (E 102 0, 16, .inl (zA (fun _ => 0)))), (b + 13, .inr (9, [.ref (b + 14)])), (b + 14, .inl (E 102 0, 96, .inl (zA (fun _ => 0))))]) rfl (fun H32 lo32 hzz hM hF h_co => ?_)
  replace hz : H32.size = b + 15 := hzz.trans hz
  clear hzz
  refine v_aload_n X dX0_init_115 116 rfl 0 rfl ?_
  refine v_new (ci := 9) X hM ftX6 kc_X0_24 kins_X6 kini_CaseManager_Row rfl dfX6 rfl dX0_init_116 119 rfl (k' := 15) (n' := 200) rfl rfl (fun o H33 ho hz1 hM hF h_new => ?_)
  obtain rfl : o = b + 15 := ho.trans hz
  replace hz : H33.size = b + 16 := hz1
  clear ho hz1
  have h_n_34 : PR E (b + 15) [(b + 15, .inr (9, [.null]))] H33 := h_new
  replace h_co := h_co.kept hF 15 rfl (fun q _ _ h => h.elim)
  refine v_dup X dX0_init_119 120 rfl rfl ?_
  refine v_sipush X dX0_init_120 123 rfl rfl ?_
  refine v_muI X hM (c_X6_init128 l E (b + 15)) rfl kvX6_init kiiX6_init rfl kl_X0_26 (As := [.int (zI 128)]) rfl rfl rfl dX0_init_123 126 rfl (k' := 16) (n' := 328) rfl rfl (fsI (fun q q1 q2 => (Or.inr (by omega)))) ⟨h_n_34, (by omega)⟩ (fun rv H35 lo35 hM hF hpo => ?_)
  obtain ⟨rfl, hw_0, hz9⟩ := hpo
  clear hz
  have hz := hz9; clear hz9
  replace hz : H35.size = b + 17 := hz
  have h_n_34 : PR E (b + 15) (rowW E (b + 15) 128 (fun _ => 0)) H35 := hw_0
  replace h_co := h_co.kept hF 15 rfl (fsd (by omega))
  have h_co : PR E b [(b, .inr (4, [.int (zI 0), .int (zI 0), .int (zI 0), .int (zI 0), .ref (b + 1), .ref (b + 3), .ref (b + 5), .ref (b + 7), .ref (b + 9), .ref (b + 11), .ref (b + 13), .null, .null, .null, .null, .null, .null])), (b + 1, .inr (9, [.ref (b + 2)])), (b + 2, .inl (E 102 0, 16, .inl (zA (fun _ => 0)))), (b + 3, .inr (9, [.ref (b + 4)])), (b + 4, .inl (E 102 0, 16, .inl (zA (fun _ => 0)))), (b + 5, .inr (9, [.ref (b + 6)])), (b + 6, .inl (E 102 0, 16, .inl (zA (fun _ => 0)))), (b + 7, .inr (9, [.ref (b + 8)])), (b + 8, .inl (E 102 0, 16, .inl (zA (fun _ => 0)))), (b + 9, .inr (9, [.ref (b + 10)])), (b + 10, .inl (E 102 0, 16, .inl (zA (fun _ => 0)))), (b + 11, .inr (9, [.ref (b + 12)])), (b + 12, .inl (E 102 0, 16, .inl (zA (fun _ => 0)))), (b + 13, .inr (9, [.ref (b + 14)])), (b + 14, .inl (E 102 0, 96, .inl (zA (fun _ => 0)))), (b + 15, .inr (9, [.ref (b + 16)])), (b + 16, .inl (E 102 0, 128, .inl (zA (fun _ => 0))))] H35 := h_co.app2 15 rfl rfl h_n_34 rfl
  show V p l e (rmL 3 27 612) s m args below meth cd Q 1 H35 lo35 16 328 126 [(0, .ref b)] [.ref (b + 15), .ref b]
  refine v_putF X hM h_co ftX0 0 rfl rfl 11 (by decide) kf_X0_51 (fun _ h => h) rfl hnm rfl rfl rfl (Nat.le_of_ble_eq_true rfl) (Or.inl (fsH (by omega) (by omega))) dX0_init_126 129 rfl (ws' := [(b, .inr (4, [.int (zI 0), .int (zI 0), .int (zI 0), .int (zI 0), .ref (b + 1), .ref (b + 3), .ref (b + 5), .ref (b + 7), .ref (b + 9), .ref (b + 11), .ref (b + 13), .ref (b + 15), .null, .null, .null, .null, .null])), (b + 1, .inr (9, [.ref (b + 2)])), (b + 2, .inl (E 102 0, 16, .inl (zA (fun _ => 0)))), (b + 3, .inr (9, [.ref (b + 4)])), (b + 4, .inl (E 102 0, 16, .inl (zA (fun _ => 0)))), (b + 5, .inr (9, [.ref (b + 6)])), (b + 6, .inl (E 102 0, 16, .inl (zA (fun _ => 0)))), (b + 7, .inr (9, [.ref (b + 8)])), (b + 8, .inl (E 102 0, 16, .inl (zA (fun _ => 0)))), (b + 9, .inr (9, [.ref (b + 10)])), (b + 10, .inl (E 102 0, 16, .inl (zA (fun _ => 0)))), (b + 11, .inr (9, [.ref (b + 12)])), (b + 12, .inl (E 102 0, 16, .inl (zA (fun _ => 0)))), (b + 13, .inr (9, [.ref (b + 14)])), (b + 14, .inl (E 102 0, 96, .inl (zA (fun _ => 0)))), (b + 15, .inr (9, [.ref (b + 16)])), (b + 16, .inl (E 102 0, 128, .inl (zA (fun _ => 0))))]) rfl (fun H36 lo36 hzz hM hF h_co => ?_)
  replace hz : H36.size = b + 17 := hzz.trans hz
  clear hzz
  refine v_aload_n X dX0_init_129 130 rfl 0 rfl ?_
  refine v_new (ci := 9) X hM ftX6 kc_X0_24 kins_X6 kini_CaseManager_Row rfl dfX6 rfl dX0_init_130 133 rfl (k' := 17) (n' := 329) rfl rfl (fun o H37 ho hz1 hM hF h_new => ?_)
  obtain rfl : o = b + 17 := ho.trans hz
  replace hz : H37.size = b + 18 := hz1
  clear ho hz1
  have h_n_38 : PR E (b + 17) [(b + 17, .inr (9, [.null]))] H37 := h_new
  replace h_co := h_co.kept hF 17 rfl (fun q _ _ h => h.elim)
  refine v_dup X dX0_init_133 134 rfl rfl ?_
  refine v_sipush X dX0_init_134 137 rfl rfl ?_
  refine v_muI X hM (c_X6_init128 l E (b + 17)) rfl kvX6_init kiiX6_init rfl kl_X0_26 (As := [.int (zI 128)]) rfl rfl rfl dX0_init_137 140 rfl (k' := 18) (n' := 457) rfl rfl (fsI (fun q q1 q2 => (Or.inr (by omega)))) ⟨h_n_38, (by omega)⟩ (fun rv H39 lo39 hM hF hpo => ?_)
  obtain ⟨rfl, hw_0, hz9⟩ := hpo
  clear hz
  have hz := hz9; clear hz9
  replace hz : H39.size = b + 19 := hz
  have h_n_38 : PR E (b + 17) (rowW E (b + 17) 128 (fun _ => 0)) H39 := hw_0
  replace h_co := h_co.kept hF 17 rfl (fsd (by omega))
  have h_co : PR E b [(b, .inr (4, [.int (zI 0), .int (zI 0), .int (zI 0), .int (zI 0), .ref (b + 1), .ref (b + 3), .ref (b + 5), .ref (b + 7), .ref (b + 9), .ref (b + 11), .ref (b + 13), .ref (b + 15), .null, .null, .null, .null, .null])), (b + 1, .inr (9, [.ref (b + 2)])), (b + 2, .inl (E 102 0, 16, .inl (zA (fun _ => 0)))), (b + 3, .inr (9, [.ref (b + 4)])), (b + 4, .inl (E 102 0, 16, .inl (zA (fun _ => 0)))), (b + 5, .inr (9, [.ref (b + 6)])), (b + 6, .inl (E 102 0, 16, .inl (zA (fun _ => 0)))), (b + 7, .inr (9, [.ref (b + 8)])), (b + 8, .inl (E 102 0, 16, .inl (zA (fun _ => 0)))), (b + 9, .inr (9, [.ref (b + 10)])), (b + 10, .inl (E 102 0, 16, .inl (zA (fun _ => 0)))), (b + 11, .inr (9, [.ref (b + 12)])), (b + 12, .inl (E 102 0, 16, .inl (zA (fun _ => 0)))), (b + 13, .inr (9, [.ref (b + 14)])), (b + 14, .inl (E 102 0, 96, .inl (zA (fun _ => 0)))), (b + 15, .inr (9, [.ref (b + 16)])), (b + 16, .inl (E 102 0, 128, .inl (zA (fun _ => 0)))), (b + 17, .inr (9, [.ref (b + 18)])), (b + 18, .inl (E 102 0, 128, .inl (zA (fun _ => 0))))] H39 := h_co.app2 17 rfl rfl h_n_38 rfl
  show V p l e (rmL 3 27 612) s m args below meth cd Q 1 H39 lo39 18 457 140 [(0, .ref b)] [.ref (b + 17), .ref b]
  refine v_putF X hM h_co ftX0 0 rfl rfl 12 (by decide) kf_X0_54 (fun _ h => h) rfl hnm rfl rfl rfl (Nat.le_of_ble_eq_true rfl) (Or.inl (fsH (by omega) (by omega))) dX0_init_140 143 rfl (ws' := [(b, .inr (4, [.int (zI 0), .int (zI 0), .int (zI 0), .int (zI 0), .ref (b + 1), .ref (b + 3), .ref (b + 5), .ref (b + 7), .ref (b + 9), .ref (b + 11), .ref (b + 13), .ref (b + 15), .ref (b + 17), .null, .null, .null, .null])), (b + 1, .inr (9, [.ref (b + 2)])), (b + 2, .inl (E 102 0, 16, .inl (zA (fun _ => 0)))), (b + 3, .inr (9, [.ref (b + 4)])), (b + 4, .inl (E 102 0, 16, .inl (zA (fun _ => 0)))), (b + 5, .inr (9, [.ref (b + 6)])), (b + 6, .inl (E 102 0, 16, .inl (zA (fun _ => 0)))), (b + 7, .inr (9, [.ref (b + 8)])), (b + 8, .inl (E 102 0, 16, .inl (zA (fun _ => 0)))), (b + 9, .inr (9, [.ref (b + 10)])), (b + 10, .inl (E 102 0, 16, .inl (zA (fun _ => 0)))), (b + 11, .inr (9, [.ref (b + 12)])), (b + 12, .inl (E 102 0, 16, .inl (zA (fun _ => 0)))), (b + 13, .inr (9, [.ref (b + 14)])), (b + 14, .inl (E 102 0, 96, .inl (zA (fun _ => 0)))), (b + 15, .inr (9, [.ref (b + 16)])), (b + 16, .inl (E 102 0, 128, .inl (zA (fun _ => 0)))), (b + 17, .inr (9, [.ref (b + 18)])), (b + 18, .inl (E 102 0, 128, .inl (zA (fun _ => 0))))]) rfl (fun H40 lo40 hzz hM hF h_co => ?_)
  replace hz : H40.size = b + 19 := hzz.trans hz
  clear hzz
  refine v_aload_n X dX0_init_143 144 rfl 0 rfl ?_
  refine v_new (ci := 9) X hM ftX6 kc_X0_24 kins_X6 kini_CaseManager_Row rfl dfX6 rfl dX0_init_144 147 rfl (k' := 19) (n' := 458) rfl rfl (fun o H41 ho hz1 hM hF h_new => ?_)
  obtain rfl : o = b + 19 := ho.trans hz
  replace hz : H41.size = b + 20 := hz1
  clear ho hz1
  have h_n_42 : PR E (b + 19) [(b + 19, .inr (9, [.null]))] H41 := h_new
  replace h_co := h_co.kept hF 19 rfl (fun q _ _ h => h.elim)
  refine v_dup X dX0_init_147 148 rfl rfl ?_
  refine v_sipush X dX0_init_148 151 rfl rfl ?_
  refine v_muI X hM (c_X6_init128 l E (b + 19)) rfl kvX6_init kiiX6_init rfl kl_X0_26 (As := [.int (zI 128)]) rfl rfl rfl dX0_init_151 154 rfl (k' := 20) (n' := 586) rfl rfl (fsI (fun q q1 q2 => (Or.inr (by omega)))) ⟨h_n_42, (by omega)⟩ (fun rv H43 lo43 hM hF hpo => ?_)
  obtain ⟨rfl, hw_0, hz9⟩ := hpo
  clear hz
  have hz := hz9; clear hz9
  replace hz : H43.size = b + 21 := hz
  have h_n_42 : PR E (b + 19) (rowW E (b + 19) 128 (fun _ => 0)) H43 := hw_0
  replace h_co := h_co.kept hF 19 rfl (fsd (by omega))
  have h_co : PR E b [(b, .inr (4, [.int (zI 0), .int (zI 0), .int (zI 0), .int (zI 0), .ref (b + 1), .ref (b + 3), .ref (b + 5), .ref (b + 7), .ref (b + 9), .ref (b + 11), .ref (b + 13), .ref (b + 15), .ref (b + 17), .null, .null, .null, .null])), (b + 1, .inr (9, [.ref (b + 2)])), (b + 2, .inl (E 102 0, 16, .inl (zA (fun _ => 0)))), (b + 3, .inr (9, [.ref (b + 4)])), (b + 4, .inl (E 102 0, 16, .inl (zA (fun _ => 0)))), (b + 5, .inr (9, [.ref (b + 6)])), (b + 6, .inl (E 102 0, 16, .inl (zA (fun _ => 0)))), (b + 7, .inr (9, [.ref (b + 8)])), (b + 8, .inl (E 102 0, 16, .inl (zA (fun _ => 0)))), (b + 9, .inr (9, [.ref (b + 10)])), (b + 10, .inl (E 102 0, 16, .inl (zA (fun _ => 0)))), (b + 11, .inr (9, [.ref (b + 12)])), (b + 12, .inl (E 102 0, 16, .inl (zA (fun _ => 0)))), (b + 13, .inr (9, [.ref (b + 14)])), (b + 14, .inl (E 102 0, 96, .inl (zA (fun _ => 0)))), (b + 15, .inr (9, [.ref (b + 16)])), (b + 16, .inl (E 102 0, 128, .inl (zA (fun _ => 0)))), (b + 17, .inr (9, [.ref (b + 18)])), (b + 18, .inl (E 102 0, 128, .inl (zA (fun _ => 0)))), (b + 19, .inr (9, [.ref (b + 20)])), (b + 20, .inl (E 102 0, 128, .inl (zA (fun _ => 0))))] H43 := h_co.app2 19 rfl rfl h_n_42 rfl
  show V p l e (rmL 3 27 612) s m args below meth cd Q 1 H43 lo43 20 586 154 [(0, .ref b)] [.ref (b + 19), .ref b]
  refine v_putF X hM h_co ftX0 0 rfl rfl 13 (by decide) kf_X0_57 (fun _ h => h) rfl hnm rfl rfl rfl (Nat.le_of_ble_eq_true rfl) (Or.inl (fsH (by omega) (by omega))) dX0_init_154 157 rfl (ws' := [(b, .inr (4, [.int (zI 0), .int (zI 0), .int (zI 0), .int (zI 0), .ref (b + 1), .ref (b + 3), .ref (b + 5), .ref (b + 7), .ref (b + 9), .ref (b + 11), .ref (b + 13), .ref (b + 15), .ref (b + 17), .ref (b + 19), .null, .null, .null])), (b + 1, .inr (9, [.ref (b + 2)])), (b + 2, .inl (E 102 0, 16, .inl (zA (fun _ => 0)))), (b + 3, .inr (9, [.ref (b + 4)])), (b + 4, .inl (E 102 0, 16, .inl (zA (fun _ => 0)))), (b + 5, .inr (9, [.ref (b + 6)])), (b + 6, .inl (E 102 0, 16, .inl (zA (fun _ => 0)))), (b + 7, .inr (9, [.ref (b + 8)])), (b + 8, .inl (E 102 0, 16, .inl (zA (fun _ => 0)))), (b + 9, .inr (9, [.ref (b + 10)])), (b + 10, .inl (E 102 0, 16, .inl (zA (fun _ => 0)))), (b + 11, .inr (9, [.ref (b + 12)])), (b + 12, .inl (E 102 0, 16, .inl (zA (fun _ => 0)))), (b + 13, .inr (9, [.ref (b + 14)])), (b + 14, .inl (E 102 0, 96, .inl (zA (fun _ => 0)))), (b + 15, .inr (9, [.ref (b + 16)])), (b + 16, .inl (E 102 0, 128, .inl (zA (fun _ => 0)))), (b + 17, .inr (9, [.ref (b + 18)])), (b + 18, .inl (E 102 0, 128, .inl (zA (fun _ => 0)))), (b + 19, .inr (9, [.ref (b + 20)])), (b + 20, .inl (E 102 0, 128, .inl (zA (fun _ => 0))))]) rfl (fun H44 lo44 hzz hM hF h_co => ?_)
  replace hz : H44.size = b + 21 := hzz.trans hz
  clear hzz
  refine v_aload_n X dX0_init_157 158 rfl 0 rfl ?_
  refine v_new (ci := 9) X hM ftX6 kc_X0_24 kins_X6 kini_CaseManager_Row rfl dfX6 rfl dX0_init_158 161 rfl (k' := 21) (n' := 587) rfl rfl (fun o H45 ho hz1 hM hF h_new => ?_)
  obtain rfl : o = b + 21 := ho.trans hz
  replace hz : H45.size = b + 22 := hz1
  clear ho hz1
  have h_n_46 : PR E (b + 21) [(b + 21, .inr (9, [.null]))] H45 := h_new
  replace h_co := h_co.kept hF 21 rfl (fun q _ _ h => h.elim)
  refine v_dup X dX0_init_161 162 rfl rfl ?_
  refine v_bipush X dX0_init_162 164 rfl rfl ?_
  refine v_muI X hM (c_X6_init8 l E (b + 21)) rfl kvX6_init kiiX6_init rfl kl_X0_26 (As := [.int (zI 8)]) rfl rfl rfl dX0_init_164 167 rfl (k' := 22) (n' := 595) rfl rfl (fsI (fun q q1 q2 => (Or.inr (by omega)))) ⟨h_n_46, (by omega)⟩ (fun rv H47 lo47 hM hF hpo => ?_)
  obtain ⟨rfl, hw_0, hz9⟩ := hpo
  clear hz
  have hz := hz9; clear hz9
  replace hz : H47.size = b + 23 := hz
  have h_n_46 : PR E (b + 21) (rowW E (b + 21) 8 (fun _ => 0)) H47 := hw_0
  replace h_co := h_co.kept hF 21 rfl (fsd (by omega))
  have h_co : PR E b [(b, .inr (4, [.int (zI 0), .int (zI 0), .int (zI 0), .int (zI 0), .ref (b + 1), .ref (b + 3), .ref (b + 5), .ref (b + 7), .ref (b + 9), .ref (b + 11), .ref (b + 13), .ref (b + 15), .ref (b + 17), .ref (b + 19), .null, .null, .null])), (b + 1, .inr (9, [.ref (b + 2)])), (b + 2, .inl (E 102 0, 16, .inl (zA (fun _ => 0)))), (b + 3, .inr (9, [.ref (b + 4)])), (b + 4, .inl (E 102 0, 16, .inl (zA (fun _ => 0)))), (b + 5, .inr (9, [.ref (b + 6)])), (b + 6, .inl (E 102 0, 16, .inl (zA (fun _ => 0)))), (b + 7, .inr (9, [.ref (b + 8)])), (b + 8, .inl (E 102 0, 16, .inl (zA (fun _ => 0)))), (b + 9, .inr (9, [.ref (b + 10)])), (b + 10, .inl (E 102 0, 16, .inl (zA (fun _ => 0)))), (b + 11, .inr (9, [.ref (b + 12)])), (b + 12, .inl (E 102 0, 16, .inl (zA (fun _ => 0)))), (b + 13, .inr (9, [.ref (b + 14)])), (b + 14, .inl (E 102 0, 96, .inl (zA (fun _ => 0)))), (b + 15, .inr (9, [.ref (b + 16)])), (b + 16, .inl (E 102 0, 128, .inl (zA (fun _ => 0)))), (b + 17, .inr (9, [.ref (b + 18)])), (b + 18, .inl (E 102 0, 128, .inl (zA (fun _ => 0)))), (b + 19, .inr (9, [.ref (b + 20)])), (b + 20, .inl (E 102 0, 128, .inl (zA (fun _ => 0)))), (b + 21, .inr (9, [.ref (b + 22)])), (b + 22, .inl (E 102 0, 8, .inl (zA (fun _ => 0))))] H47 := h_co.app2 21 rfl rfl h_n_46 rfl
  show V p l e (rmL 3 27 612) s m args below meth cd Q 1 H47 lo47 22 595 167 [(0, .ref b)] [.ref (b + 21), .ref b]
  refine v_putF X hM h_co ftX0 0 rfl rfl 14 (by decide) kf_X0_60 (fun _ h => h) rfl hnm rfl rfl rfl (Nat.le_of_ble_eq_true rfl) (Or.inl (fsH (by omega) (by omega))) dX0_init_167 170 rfl (ws' := [(b, .inr (4, [.int (zI 0), .int (zI 0), .int (zI 0), .int (zI 0), .ref (b + 1), .ref (b + 3), .ref (b + 5), .ref (b + 7), .ref (b + 9), .ref (b + 11), .ref (b + 13), .ref (b + 15), .ref (b + 17), .ref (b + 19), .ref (b + 21), .null, .null])), (b + 1, .inr (9, [.ref (b + 2)])), (b + 2, .inl (E 102 0, 16, .inl (zA (fun _ => 0)))), (b + 3, .inr (9, [.ref (b + 4)])), (b + 4, .inl (E 102 0, 16, .inl (zA (fun _ => 0)))), (b + 5, .inr (9, [.ref (b + 6)])), (b + 6, .inl (E 102 0, 16, .inl (zA (fun _ => 0)))), (b + 7, .inr (9, [.ref (b + 8)])), (b + 8, .inl (E 102 0, 16, .inl (zA (fun _ => 0)))), (b + 9, .inr (9, [.ref (b + 10)])), (b + 10, .inl (E 102 0, 16, .inl (zA (fun _ => 0)))), (b + 11, .inr (9, [.ref (b + 12)])), (b + 12, .inl (E 102 0, 16, .inl (zA (fun _ => 0)))), (b + 13, .inr (9, [.ref (b + 14)])), (b + 14, .inl (E 102 0, 96, .inl (zA (fun _ => 0)))), (b + 15, .inr (9, [.ref (b + 16)])), (b + 16, .inl (E 102 0, 128, .inl (zA (fun _ => 0)))), (b + 17, .inr (9, [.ref (b + 18)])), (b + 18, .inl (E 102 0, 128, .inl (zA (fun _ => 0)))), (b + 19, .inr (9, [.ref (b + 20)])), (b + 20, .inl (E 102 0, 128, .inl (zA (fun _ => 0)))), (b + 21, .inr (9, [.ref (b + 22)])), (b + 22, .inl (E 102 0, 8, .inl (zA (fun _ => 0))))]) rfl (fun H48 lo48 hzz hM hF h_co => ?_)
  replace hz : H48.size = b + 23 := hzz.trans hz
  clear hzz
  refine v_aload_n X dX0_init_170 171 rfl 0 rfl ?_
  refine v_new (ci := 9) X hM ftX6 kc_X0_24 kins_X6 kini_CaseManager_Row rfl dfX6 rfl dX0_init_171 174 rfl (k' := 23) (n' := 596) rfl rfl (fun o H49 ho hz1 hM hF h_new => ?_)
  obtain rfl : o = b + 23 := ho.trans hz
  replace hz : H49.size = b + 24 := hz1
  clear ho hz1
  have h_n_50 : PR E (b + 23) [(b + 23, .inr (9, [.null]))] H49 := h_new
  replace h_co := h_co.kept hF 23 rfl (fun q _ _ h => h.elim)
  refine v_dup X dX0_init_174 175 rfl rfl ?_
  refine v_bipush X dX0_init_175 177 rfl rfl ?_
  refine v_muI X hM (c_X6_init6 l E (b + 23)) rfl kvX6_init kiiX6_init rfl kl_X0_26 (As := [.int (zI 6)]) rfl rfl rfl dX0_init_177 180 rfl (k' := 24) (n' := 602) rfl rfl (fsI (fun q q1 q2 => (Or.inr (by omega)))) ⟨h_n_50, (by omega)⟩ (fun rv H51 lo51 hM hF hpo => ?_)
  obtain ⟨rfl, hw_0, hz9⟩ := hpo
  clear hz
  have hz := hz9; clear hz9
  replace hz : H51.size = b + 25 := hz
  have h_n_50 : PR E (b + 23) (rowW E (b + 23) 6 (fun _ => 0)) H51 := hw_0
  replace h_co := h_co.kept hF 23 rfl (fsd (by omega))
  have h_co : PR E b [(b, .inr (4, [.int (zI 0), .int (zI 0), .int (zI 0), .int (zI 0), .ref (b + 1), .ref (b + 3), .ref (b + 5), .ref (b + 7), .ref (b + 9), .ref (b + 11), .ref (b + 13), .ref (b + 15), .ref (b + 17), .ref (b + 19), .ref (b + 21), .null, .null])), (b + 1, .inr (9, [.ref (b + 2)])), (b + 2, .inl (E 102 0, 16, .inl (zA (fun _ => 0)))), (b + 3, .inr (9, [.ref (b + 4)])), (b + 4, .inl (E 102 0, 16, .inl (zA (fun _ => 0)))), (b + 5, .inr (9, [.ref (b + 6)])), (b + 6, .inl (E 102 0, 16, .inl (zA (fun _ => 0)))), (b + 7, .inr (9, [.ref (b + 8)])), (b + 8, .inl (E 102 0, 16, .inl (zA (fun _ => 0)))), (b + 9, .inr (9, [.ref (b + 10)])), (b + 10, .inl (E 102 0, 16, .inl (zA (fun _ => 0)))), (b + 11, .inr (9, [.ref (b + 12)])), (b + 12, .inl (E 102 0, 16, .inl (zA (fun _ => 0)))), (b + 13, .inr (9, [.ref (b + 14)])), (b + 14, .inl (E 102 0, 96, .inl (zA (fun _ => 0)))), (b + 15, .inr (9, [.ref (b + 16)])), (b + 16, .inl (E 102 0, 128, .inl (zA (fun _ => 0)))), (b + 17, .inr (9, [.ref (b + 18)])), (b + 18, .inl (E 102 0, 128, .inl (zA (fun _ => 0)))), (b + 19, .inr (9, [.ref (b + 20)])), (b + 20, .inl (E 102 0, 128, .inl (zA (fun _ => 0)))), (b + 21, .inr (9, [.ref (b + 22)])), (b + 22, .inl (E 102 0, 8, .inl (zA (fun _ => 0)))), (b + 23, .inr (9, [.ref (b + 24)])), (b + 24, .inl (E 102 0, 6, .inl (zA (fun _ => 0))))] H51 := h_co.app2 23 rfl rfl h_n_50 rfl
  show V p l e (rmL 3 27 612) s m args below meth cd Q 1 H51 lo51 24 602 180 [(0, .ref b)] [.ref (b + 23), .ref b]
  refine v_putF X hM h_co ftX0 0 rfl rfl 15 (by decide) kf_X0_63 (fun _ h => h) rfl hnm rfl rfl rfl (Nat.le_of_ble_eq_true rfl) (Or.inl (fsH (by omega) (by omega))) dX0_init_180 183 rfl (ws' := [(b, .inr (4, [.int (zI 0), .int (zI 0), .int (zI 0), .int (zI 0), .ref (b + 1), .ref (b + 3), .ref (b + 5), .ref (b + 7), .ref (b + 9), .ref (b + 11), .ref (b + 13), .ref (b + 15), .ref (b + 17), .ref (b + 19), .ref (b + 21), .ref (b + 23), .null])), (b + 1, .inr (9, [.ref (b + 2)])), (b + 2, .inl (E 102 0, 16, .inl (zA (fun _ => 0)))), (b + 3, .inr (9, [.ref (b + 4)])), (b + 4, .inl (E 102 0, 16, .inl (zA (fun _ => 0)))), (b + 5, .inr (9, [.ref (b + 6)])), (b + 6, .inl (E 102 0, 16, .inl (zA (fun _ => 0)))), (b + 7, .inr (9, [.ref (b + 8)])), (b + 8, .inl (E 102 0, 16, .inl (zA (fun _ => 0)))), (b + 9, .inr (9, [.ref (b + 10)])), (b + 10, .inl (E 102 0, 16, .inl (zA (fun _ => 0)))), (b + 11, .inr (9, [.ref (b + 12)])), (b + 12, .inl (E 102 0, 16, .inl (zA (fun _ => 0)))), (b + 13, .inr (9, [.ref (b + 14)])), (b + 14, .inl (E 102 0, 96, .inl (zA (fun _ => 0)))), (b + 15, .inr (9, [.ref (b + 16)])), (b + 16, .inl (E 102 0, 128, .inl (zA (fun _ => 0)))), (b + 17, .inr (9, [.ref (b + 18)])), (b + 18, .inl (E 102 0, 128, .inl (zA (fun _ => 0)))), (b + 19, .inr (9, [.ref (b + 20)])), (b + 20, .inl (E 102 0, 128, .inl (zA (fun _ => 0)))), (b + 21, .inr (9, [.ref (b + 22)])), (b + 22, .inl (E 102 0, 8, .inl (zA (fun _ => 0)))), (b + 23, .inr (9, [.ref (b + 24)])), (b + 24, .inl (E 102 0, 6, .inl (zA (fun _ => 0))))]) rfl (fun H52 lo52 hzz hM hF h_co => ?_)
  replace hz : H52.size = b + 25 := hzz.trans hz
  clear hzz
  refine v_aload_n X dX0_init_183 184 rfl 0 rfl ?_
  refine v_new (ci := 6) X hM ftX3 kc_X0_66 kins_X3 kini_CaseManager_Groups rfl dfX3 rfl dX0_init_184 187 rfl (k' := 25) (n' := 603) rfl rfl (fun o H53 ho hz1 hM hF h_new => ?_)
  obtain rfl : o = b + 25 := ho.trans hz
  replace hz : H53.size = b + 26 := hz1
  clear ho hz1
  have h_n_54 : PR E (b + 25) [(b + 25, .inr (6, [.null]))] H53 := h_new
  replace h_co := h_co.kept hF 25 rfl (fun q _ _ h => h.elim)
  refine v_dup X dX0_init_187 188 rfl rfl ?_
  refine v_muIN X hM (c_X3_init l E (b + 25)) rfl kvX3_init kiiX3_init rfl kln_X0_68 (As := []) rfl rfl rfl dX0_init_188 191 rfl (k' := 27) (n' := 612) rfl rfl (fsI (fun q q1 q2 => (Or.inr (by omega)))) ⟨h_n_54, (by omega)⟩ (fun rv H55 lo55 hM hF hpo => ?_)
  obtain ⟨rfl, hw_0, hz9⟩ := hpo
  clear hz
  have hz := hz9; clear hz9
  replace hz : H55.size = b + 28 := hz
  have h_n_54 : PR E (b + 25) (groupsW E (b + 25) (fun _ => 0)) H55 := hw_0
  replace h_co := h_co.kept hF 25 rfl (fsd (by omega))
  have h_co : PR E b [(b, .inr (4, [.int (zI 0), .int (zI 0), .int (zI 0), .int (zI 0), .ref (b + 1), .ref (b + 3), .ref (b + 5), .ref (b + 7), .ref (b + 9), .ref (b + 11), .ref (b + 13), .ref (b + 15), .ref (b + 17), .ref (b + 19), .ref (b + 21), .ref (b + 23), .null])), (b + 1, .inr (9, [.ref (b + 2)])), (b + 2, .inl (E 102 0, 16, .inl (zA (fun _ => 0)))), (b + 3, .inr (9, [.ref (b + 4)])), (b + 4, .inl (E 102 0, 16, .inl (zA (fun _ => 0)))), (b + 5, .inr (9, [.ref (b + 6)])), (b + 6, .inl (E 102 0, 16, .inl (zA (fun _ => 0)))), (b + 7, .inr (9, [.ref (b + 8)])), (b + 8, .inl (E 102 0, 16, .inl (zA (fun _ => 0)))), (b + 9, .inr (9, [.ref (b + 10)])), (b + 10, .inl (E 102 0, 16, .inl (zA (fun _ => 0)))), (b + 11, .inr (9, [.ref (b + 12)])), (b + 12, .inl (E 102 0, 16, .inl (zA (fun _ => 0)))), (b + 13, .inr (9, [.ref (b + 14)])), (b + 14, .inl (E 102 0, 96, .inl (zA (fun _ => 0)))), (b + 15, .inr (9, [.ref (b + 16)])), (b + 16, .inl (E 102 0, 128, .inl (zA (fun _ => 0)))), (b + 17, .inr (9, [.ref (b + 18)])), (b + 18, .inl (E 102 0, 128, .inl (zA (fun _ => 0)))), (b + 19, .inr (9, [.ref (b + 20)])), (b + 20, .inl (E 102 0, 128, .inl (zA (fun _ => 0)))), (b + 21, .inr (9, [.ref (b + 22)])), (b + 22, .inl (E 102 0, 8, .inl (zA (fun _ => 0)))), (b + 23, .inr (9, [.ref (b + 24)])), (b + 24, .inl (E 102 0, 6, .inl (zA (fun _ => 0)))), (b + 25, .inr (6, [.ref (b + 26)])), (b + 26, .inr (9, [.ref (b + 27)])), (b + 27, .inl (E 102 0, 8, .inl (zA (fun _ => 0))))] H55 := h_co.app2 25 rfl rfl h_n_54 rfl
  show V p l e (rmL 3 27 612) s m args below meth cd Q 1 H55 lo55 27 612 191 [(0, .ref b)] [.ref (b + 25), .ref b]
  refine v_putF X hM h_co ftX0 0 rfl rfl 16 (by decide) kf_X0_69 (fun _ h => h) rfl hnm rfl rfl rfl (Nat.le_of_ble_eq_true rfl) (Or.inl (fsH (by omega) (by omega))) dX0_init_191 194 rfl (ws' := [(b, .inr (4, [.int (zI 0), .int (zI 0), .int (zI 0), .int (zI 0), .ref (b + 1), .ref (b + 3), .ref (b + 5), .ref (b + 7), .ref (b + 9), .ref (b + 11), .ref (b + 13), .ref (b + 15), .ref (b + 17), .ref (b + 19), .ref (b + 21), .ref (b + 23), .ref (b + 25)])), (b + 1, .inr (9, [.ref (b + 2)])), (b + 2, .inl (E 102 0, 16, .inl (zA (fun _ => 0)))), (b + 3, .inr (9, [.ref (b + 4)])), (b + 4, .inl (E 102 0, 16, .inl (zA (fun _ => 0)))), (b + 5, .inr (9, [.ref (b + 6)])), (b + 6, .inl (E 102 0, 16, .inl (zA (fun _ => 0)))), (b + 7, .inr (9, [.ref (b + 8)])), (b + 8, .inl (E 102 0, 16, .inl (zA (fun _ => 0)))), (b + 9, .inr (9, [.ref (b + 10)])), (b + 10, .inl (E 102 0, 16, .inl (zA (fun _ => 0)))), (b + 11, .inr (9, [.ref (b + 12)])), (b + 12, .inl (E 102 0, 16, .inl (zA (fun _ => 0)))), (b + 13, .inr (9, [.ref (b + 14)])), (b + 14, .inl (E 102 0, 96, .inl (zA (fun _ => 0)))), (b + 15, .inr (9, [.ref (b + 16)])), (b + 16, .inl (E 102 0, 128, .inl (zA (fun _ => 0)))), (b + 17, .inr (9, [.ref (b + 18)])), (b + 18, .inl (E 102 0, 128, .inl (zA (fun _ => 0)))), (b + 19, .inr (9, [.ref (b + 20)])), (b + 20, .inl (E 102 0, 128, .inl (zA (fun _ => 0)))), (b + 21, .inr (9, [.ref (b + 22)])), (b + 22, .inl (E 102 0, 8, .inl (zA (fun _ => 0)))), (b + 23, .inr (9, [.ref (b + 24)])), (b + 24, .inl (E 102 0, 6, .inl (zA (fun _ => 0)))), (b + 25, .inr (6, [.ref (b + 26)])), (b + 26, .inr (9, [.ref (b + 27)])), (b + 27, .inl (E 102 0, 8, .inl (zA (fun _ => 0))))]) rfl (fun H56 lo56 hzz hM hF h_co => ?_)
  replace hz : H56.size = b + 28 := hzz.trans hz
  clear hzz
  subst hQ; exact m_vret X hr hlk hM dX0_init_194 rfl ⟨rfl, (PR.to h_co rfl), (by omega)⟩

