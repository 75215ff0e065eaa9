set_option maxHeartbeats 4000000 in
set_option maxRecDepth 20000 in
theorem c_X4_placeAt (l : Launch) (E : Nat → Nat → Nat) (h : Nat) (nx : Int) (sz : Int) (i : Int) (i0 : 0 ≤ i) (i1 : i < 8) : Rd l yX4_placeAt cX4_placeAt 2 (some (.object "CaseManager$Court")) 0 E [.ref h, .int (zI i)] ([(h, .inr (7, [.ref (h + 1), .int (zI nx), .int (zI sz)])), (h + 1, .inl (E 102 3, 8, .inr (.inr (.inr (.inr (hisA (h + 2) 8))))))]) (some (.ref (h + 2 + 28 * Int.toNat i))) := by
  refine Rd.start (own := RX4) rfl (by decide +kernel) (Nat.le_of_ble_eq_true rfl) ?_
  intro p e s m below meth cd args Q hQ X hr hlk hC hP
  have h_hi := hP
  refine v_iload_n X dX4_placeAt_0 1 rfl 1 rfl ?_
  refine v_if_lt X (by omega) dX4_placeAt_1 4 22 rfl (by decide) (fun c_1 => ?_) (fun c_1 => ?_)
  · skip
    exfalso; omega
  · skip
    refine v_iload_n X dX4_placeAt_4 5 rfl 1 rfl ?_
    refine v_aload_n X dX4_placeAt_5 6 rfl 0 rfl ?_
    refine v_getf X hC h_hi inX4 0 rfl rfl 0 (by decide) kf_X4_11 (fun _ h => h) rfl dX4_placeAt_6 9 rfl ?_
    refine v_alen X hC h_hi 1 3 rfl rfl dX4_placeAt_9 10 rfl ?_
    refine v_icmp_ge X (by omega) (by omega) dX4_placeAt_10 13 22 rfl (by decide) (fun c_2 => ?_) (fun c_2 => ?_)
    · skip
      exfalso; omega
    · skip
      refine v_aload_n X dX4_placeAt_13 14 rfl 0 rfl ?_
      refine v_getf X hC h_hi inX4 0 rfl rfl 0 (by decide) kf_X4_11 (fun _ h => h) rfl dX4_placeAt_14 17 rfl ?_
      refine v_iload_n X dX4_placeAt_17 18 rfl 1 rfl ?_
      refine v_aldq X hC h_hi 1 rfl (by omega) (by omega) (by omega) (x := h + 2 + 28 * Int.toNat i) (if_pos (by omega)) dX4_placeAt_18 19 rfl ?_
      refine v_goto X dX4_placeAt_19 23 (by decide) ?_
      subst hQ; exact v_aret0 X hr (Or.inl ⟨_, rfl⟩) hlk dX4_placeAt_23 (Or.inr ⟨_, rfl⟩)
set_option maxHeartbeats 4000000 in
set_option maxRecDepth 20000 in
theorem c_X4_keep1 (l : Launch) (E : Nat → Nat → Nat) (h : Nat) (b : Nat) (co : Nat → Int → Int) (hc : Nat → Nat → Int → Int) (nx : Int) (sz : Int) (n0 : 0 ≤ nx) (n1 : nx < 8) (s0 : 0 ≤ sz) (s1 : sz ≤ 8) (hnx : nx < 7) (hd_hi_hf : h + 2 ≤ h + 2 ∨ h + 2 + 224 ≤ h) (hd_hi_co : h + 2 ≤ b ∨ b + 28 ≤ h) (hd_hf_co : h + 2 + 224 ≤ b ∨ b + 28 ≤ h + 2) : Mu l yX4_keep cX4_keep 3 none 3 0 0 E [(h, 2), (h + 2, 224)] [.ref h, .ref b] (fun H => PR E h [(h, .inr (7, [.ref (h + 1), .int (zI nx), .int (zI sz)])), (h + 1, .inl (E 102 3, 8, .inr (.inr (.inr (.inr (hisA (h + 2) 8))))))] H ∧ HF E (h + 2) 8 hc H ∧ PR E b (courtW E b co) H) (fun rv H => rv = none ∧ PR E h [(h, .inr (7, [.ref (h + 1), .int (zI (nx + 1)), .int (zI (min (sz + 1) 8))])), (h + 1, .inl (E 102 3, 8, .inr (.inr (.inr (.inr (hisA (h + 2) 8))))))] H ∧ HF E (h + 2) 8 (fun j => if j = nx.toNat then co else hc j) H) := by
  refine Mu.start (own := RX4) rfl (by decide +kernel) (Nat.le_of_ble_eq_true rfl) ?_
  intro p e s m below meth cd args Q hQ X hr hlk hnm hM hPr
  obtain ⟨h_hi, h_hf, h_co⟩ := hPr
  refine v_aload_n X dX4_keep_0 1 rfl 0 rfl ?_
  refine v_aload_n X dX4_keep_1 2 rfl 0 rfl ?_
  refine v_getf X hM.C h_hi.1 inX4 0 rfl rfl 1 (by decide) kf_X4_17 (fun _ h => h) rfl dX4_keep_2 5 rfl ?_
  show V p l e (rmL 3 0 0) s m args below meth cd Q 3 s.heap [] 0 0 5 [(0, .ref h), (1, .ref b)] [.int (zI nx), .ref h]
  refine v_rdV X hM.C h_hi.1 (c_X4_placeAt l E h nx sz nx n0 n1) kvX4_placeAt kiX4_placeAt kl_X4_25 rfl rfl (As := [.int (zI nx)]) rfl rfl rfl dX4_keep_5 8 rfl ?_
  show V p l e (rmL 3 0 0) s m args below meth cd Q 3 s.heap [] 0 0 8 [(0, .ref h), (1, .ref b)] [.ref (h + 2 + 28 * Int.toNat nx)]
  refine v_astore_n X dX4_keep_8 9 rfl rfl (by decide) (L' := [(2, .ref (h + 2 + 28 * Int.toNat nx)), (0, .ref h), (1, .ref b)]) rfl ?_
  refine v_aload_n X dX4_keep_9 10 rfl 0 rfl ?_
  refine v_ifnull X dX4_keep_10 13 rfl ?_
  refine v_aload_n X dX4_keep_13 14 rfl 0 rfl ?_
  refine v_aload_n X dX4_keep_14 15 rfl 2 rfl ?_
  have h_pl : PR E (h + 2 + 28 * Int.toNat nx) (courtW E (h + 2 + 28 * Int.toNat nx) (hc (Int.toNat nx))) s.heap := h_hf (Int.toNat nx) (by omega)
  have h_hf0 := h_hf
  refine v_muV X hM (h_pl.1) (c_X0_copyFrom l E (h + 2 + 28 * Int.toNat nx) b (hc (Int.toNat nx)) co (by omega)) kvX0_copyFrom kiX0_copyFrom kl_X4_29 (q0 := 0) rfl rfl (As := [.ref b]) rfl rfl rfl dX4_keep_15 18 rfl (k' := 0) (n' := 0) rfl rfl (fsI (fun q q1 q2 => (Or.inl (fsT (fsH (by omega) (by omega)))))) ⟨h_pl, h_co⟩ (fun rv H1 lo1 hM hF hpo => ?_)
  obtain ⟨rfl, hw_0⟩ := hpo
  have h_pl : PR E (h + 2 + 28 * Int.toNat nx) (courtW E (h + 2 + 28 * Int.toNat nx) co) H1 := hw_0
  replace h_hi := h_hi.kept hF 2 rfl (fsd (by omega))
  replace h_co := h_co.kept hF 28 rfl (fsd (by omega))
  show V p l e (rmL 3 0 0) s m args below meth cd Q 3 H1 lo1 0 0 18 [(2, .ref (h + 2 + 28 * Int.toNat nx)), (0, .ref h), (1, .ref b)] []
  have h_hf : HF E (h + 2) 8 (fun j => if j = nx.toNat then co else hc j) H1 := h_hf0.upd hF h_pl
  refine v_aload_n X dX4_keep_18 19 rfl 1 rfl ?_
  refine v_aload_n X dX4_keep_19 20 rfl 1 rfl ?_
  refine v_getf X hM.C h_hi.1 inX4 0 rfl rfl 1 (by decide) kf_X4_17 (fun _ h => h) rfl dX4_keep_20 23 rfl ?_
  show V p l e (rmL 3 0 0) s m args below meth cd Q 3 H1 lo1 0 0 23 [(2, .ref (h + 2 + 28 * Int.toNat nx)), (0, .ref h), (1, .ref b)] [.int (zI nx), .ref h]
  refine v_iconst X dX4_keep_23 24 rfl ?_
  refine v_iadd X dX4_keep_24 25 rfl ?_
  refine v_bipush X dX4_keep_25 27 rfl rfl ?_
  refine v_icmp_ge X (by omega) (by omega) dX4_keep_27 30 39 rfl (by decide) (fun c_2 => ?_) (fun c_2 => ?_)
  · skip
    exfalso; omega
  · skip
    refine v_aload_n X dX4_keep_30 31 rfl 1 rfl ?_
    refine v_getf X hM.C h_hi.1 inX4 0 rfl rfl 1 (by decide) kf_X4_17 (fun _ h => h) rfl dX4_keep_31 34 rfl ?_
    show V p l e (rmL 3 0 0) s m args below meth cd Q 3 H1 lo1 0 0 34 [(2, .ref (h + 2 + 28 * Int.toNat nx)), (0, .ref h), (1, .ref b)] [.int (zI nx), .ref h]
    refine v_iconst X dX4_keep_34 35 rfl ?_
    refine v_iadd X dX4_keep_35 36 rfl ?_
    refine v_goto X dX4_keep_36 40 (by decide) ?_
    refine v_putf X hM h_hi ftX4 0 rfl rfl 1 (by decide) kf_X4_17 (fun _ h => h) rfl rfl rfl (Nat.le_of_ble_eq_true rfl) (Or.inl (fsH (by omega) (by omega))) dX4_keep_40 43 rfl (ws' := [(h, .inr (7, [.ref (h + 1), .int (zI (nx + 1)), .int (zI sz)])), (h + 1, .inl (E 102 3, 8, .inr (.inr (.inr (.inr (hisA (h + 2) 8))))))]) rfl (fun H3 lo3 hzz hM hF h_hi => ?_)
    clear hzz
    replace h_co := h_co.kept hF 28 rfl (fsd (by omega))
    replace h_hf := h_hf.kept hF (fsd (by omega))
    refine v_aload_n X dX4_keep_43 44 rfl 1 rfl ?_
    refine v_aload_n X dX4_keep_44 45 rfl 1 rfl ?_
    refine v_getf X hM.C h_hi.1 inX4 0 rfl rfl 2 (by decide) kf_X4_21 (fun _ h => h) rfl dX4_keep_45 48 rfl ?_
    show V p l e (rmL 3 0 0) s m args below meth cd Q 3 H3 lo3 0 0 48 [(2, .ref (h + 2 + 28 * Int.toNat nx)), (0, .ref h), (1, .ref b)] [.int (zI sz), .ref h]
    refine v_iconst X dX4_keep_48 49 rfl ?_
    refine v_iadd X dX4_keep_49 50 rfl ?_
    refine v_bipush X dX4_keep_50 52 rfl rfl ?_
    refine v_mmin X (by omega) (by omega) kl_X4_33 dX4_keep_52 55 rfl rfl ?_
    refine v_putf X hM h_hi ftX4 0 rfl rfl 2 (by decide) kf_X4_21 (fun _ h => h) rfl rfl rfl (Nat.le_of_ble_eq_true rfl) (Or.inl (fsH (by omega) (by omega))) dX4_keep_55 58 rfl (ws' := [(h, .inr (7, [.ref (h + 1), .int (zI (nx + 1)), .int (zI (min (sz + 1) 8))])), (h + 1, .inl (E 102 3, 8, .inr (.inr (.inr (.inr (hisA (h + 2) 8))))))]) rfl (fun H4 lo4 hzz hM hF h_hi => ?_)
    clear hzz
    replace h_co := h_co.kept hF 28 rfl (fsd (by omega))
    replace h_hf := h_hf.kept hF (fsd (by omega))
    subst hQ; exact m_vret X hr hlk hM dX4_keep_58 rfl ⟨rfl, h_hi, h_hf⟩
set_option maxHeartbeats 4000000 in
set_option maxRecDepth 20000 in
theorem c_X4_keep0 (l : Launch) (E : Nat → Nat → Nat) (h : Nat) (b : Nat) (co : Nat → Int → Int) (hc : Nat → Nat → Int → Int) (nx : Int) (sz : Int) (n0 : 0 ≤ nx) (n1 : nx < 8) (s0 : 0 ≤ sz) (s1 : sz ≤ 8) (hnx : nx = 7) (hd_hi_hf : h + 2 ≤ h + 2 ∨ h + 2 + 224 ≤ h) (hd_hi_co : h + 2 ≤ b ∨ b + 28 ≤ h) (hd_hf_co : h + 2 + 224 ≤ b ∨ b + 28 ≤ h + 2) : Mu l yX4_keep cX4_keep 3 none 3 0 0 E [(h, 2), (h + 2, 224)] [.ref h, .ref b] (fun H => PR E h [(h, .inr (7, [.ref (h + 1), .int (zI nx), .int (zI sz)])), (h + 1, .inl (E 102 3, 8, .inr (.inr (.inr (.inr (hisA (h + 2) 8))))))] H ∧ HF E (h + 2) 8 hc H ∧ PR E b (courtW E b co) H) (fun rv H => rv = none ∧ PR E h [(h, .inr (7, [.ref (h + 1), .int (zI 0), .int (zI (min (sz + 1) 8))])), (h + 1, .inl (E 102 3, 8, .inr (.inr (.inr (.inr (hisA (h + 2) 8))))))] H ∧ HF E (h + 2) 8 (fun j => if j = nx.toNat then co else hc j) H) := by
  refine Mu.start (own := RX4) rfl (by decide +kernel) (Nat.le_of_ble_eq_true rfl) ?_
  intro p e s m below meth cd args Q hQ X hr hlk hnm hM hPr
  obtain ⟨h_hi, h_hf, h_co⟩ := hPr
  refine v_aload_n X dX4_keep_0 1 rfl 0 rfl ?_
  refine v_aload_n X dX4_keep_1 2 rfl 0 rfl ?_
  refine v_getf X hM.C h_hi.1 inX4 0 rfl rfl 1 (by decide) kf_X4_17 (fun _ h => h) rfl dX4_keep_2 5 rfl ?_
  show V p l e (rmL 3 0 0) s m args below meth cd Q 3 s.heap [] 0 0 5 [(0, .ref h), (1, .ref b)] [.int (zI nx), .ref h]
  refine v_rdV X hM.C h_hi.1 (c_X4_placeAt l E h nx sz nx n0 n1) kvX4_placeAt kiX4_placeAt kl_X4_25 rfl rfl (As := [.int (zI nx)]) rfl rfl rfl dX4_keep_5 8 rfl ?_
  show V p l e (rmL 3 0 0) s m args below meth cd Q 3 s.heap [] 0 0 8 [(0, .ref h), (1, .ref b)] [.ref (h + 2 + 28 * Int.toNat nx)]
  refine v_astore_n X dX4_keep_8 9 rfl rfl (by decide) (L' := [(2, .ref (h + 2 + 28 * Int.toNat nx)), (0, .ref h), (1, .ref b)]) rfl ?_
  refine v_aload_n X dX4_keep_9 10 rfl 0 rfl ?_
  refine v_ifnull X dX4_keep_10 13 rfl ?_
  refine v_aload_n X dX4_keep_13 14 rfl 0 rfl ?_
  refine v_aload_n X dX4_keep_14 15 rfl 2 rfl ?_
  have h_pl : PR E (h + 2 + 28 * Int.toNat nx) (courtW E (h + 2 + 28 * Int.toNat nx) (hc (Int.toNat nx))) s.heap := h_hf (Int.toNat nx) (by omega)
  have h_hf0 := h_hf
  refine v_muV X hM (h_pl.1) (c_X0_copyFrom l E (h + 2 + 28 * Int.toNat nx) b (hc (Int.toNat nx)) co (by omega)) kvX0_copyFrom kiX0_copyFrom kl_X4_29 (q0 := 0) rfl rfl (As := [.ref b]) rfl rfl rfl dX4_keep_15 18 rfl (k' := 0) (n' := 0) rfl rfl (fsI (fun q q1 q2 => (Or.inl (fsT (fsH (by omega) (by omega)))))) ⟨h_pl, h_co⟩ (fun rv H1 lo1 hM hF hpo => ?_)
  obtain ⟨rfl, hw_0⟩ := hpo
  have h_pl : PR E (h + 2 + 28 * Int.toNat nx) (courtW E (h + 2 + 28 * Int.toNat nx) co) H1 := hw_0
  replace h_hi := h_hi.kept hF 2 rfl (fsd (by omega))
  replace h_co := h_co.kept hF 28 rfl (fsd (by omega))
  show V p l e (rmL 3 0 0) s m args below meth cd Q 3 H1 lo1 0 0 18 [(2, .ref (h + 2 + 28 * Int.toNat nx)), (0, .ref h), (1, .ref b)] []
  have h_hf : HF E (h + 2) 8 (fun j => if j = nx.toNat then co else hc j) H1 := h_hf0.upd hF h_pl
  refine v_aload_n X dX4_keep_18 19 rfl 1 rfl ?_
  refine v_aload_n X dX4_keep_19 20 rfl 1 rfl ?_
  refine v_getf X hM.C h_hi.1 inX4 0 rfl rfl 1 (by decide) kf_X4_17 (fun _ h => h) rfl dX4_keep_20 23 rfl ?_
  show V p l e (rmL 3 0 0) s m args below meth cd Q 3 H1 lo1 0 0 23 [(2, .ref (h + 2 + 28 * Int.toNat nx)), (0, .ref h), (1, .ref b)] [.int (zI nx), .ref h]
  refine v_iconst X dX4_keep_23 24 rfl ?_
  refine v_iadd X dX4_keep_24 25 rfl ?_
  refine v_bipush X dX4_keep_25 27 rfl rfl ?_
  refine v_icmp_ge X (by omega) (by omega) dX4_keep_27 30 39 rfl (by decide) (fun c_2 => ?_) (fun c_2 => ?_)
  · skip
    refine v_iconst X dX4_keep_39 40 rfl ?_
    refine v_putf X hM h_hi ftX4 0 rfl rfl 1 (by decide) kf_X4_17 (fun _ h => h) rfl rfl rfl (Nat.le_of_ble_eq_true rfl) (Or.inl (fsH (by omega) (by omega))) dX4_keep_40 43 rfl (ws' := [(h, .inr (7, [.ref (h + 1), .int (zI 0), .int (zI sz)])), (h + 1, .inl (E 102 3, 8, .inr (.inr (.inr (.inr (hisA (h + 2) 8))))))]) rfl (fun H3 lo3 hzz hM hF h_hi => ?_)
    clear hzz
    replace h_co := h_co.kept hF 28 rfl (fsd (by omega))
    replace h_hf := h_hf.kept hF (fsd (by omega))
    refine v_aload_n X dX4_keep_43 44 rfl 1 rfl ?_
    refine v_aload_n X dX4_keep_44 45 rfl 1 rfl ?_
    refine v_getf X hM.C h_hi.1 inX4 0 rfl rfl 2 (by decide) kf_X4_21 (fun _ h => h) rfl dX4_keep_45 48 rfl ?_
    show V p l e (rmL 3 0 0) s m args below meth cd Q 3 H3 lo3 0 0 48 [(2, .ref (h + 2 + 28 * Int.toNat nx)), (0, .ref h), (1, .ref b)] [.int (zI sz), .ref h]
    refine v_iconst X dX4_keep_48 49 rfl ?_
    refine v_iadd X dX4_keep_49 50 rfl ?_
    refine v_bipush X dX4_keep_50 52 rfl rfl ?_
    refine v_mmin X (by omega) (by omega) kl_X4_33 dX4_keep_52 55 rfl rfl ?_
    refine v_putf X hM h_hi ftX4 0 rfl rfl 2 (by decide) kf_X4_21 (fun _ h => h) rfl rfl rfl (Nat.le_of_ble_eq_true rfl) (Or.inl (fsH (by omega) (by omega))) dX4_keep_55 58 rfl (ws' := [(h, .inr (7, [.ref (h + 1), .int (zI 0), .int (zI (min (sz + 1) 8))])), (h + 1, .inl (E 102 3, 8, .inr (.inr (.inr (.inr (hisA (h + 2) 8))))))]) rfl (fun H4 lo4 hzz hM hF h_hi => ?_)
    clear hzz
    replace h_co := h_co.kept hF 28 rfl (fsd (by omega))
    replace h_hf := h_hf.kept hF (fsd (by omega))
    subst hQ; exact m_vret X hr hlk hM dX4_keep_58 rfl ⟨rfl, h_hi, h_hf⟩
  · skip
    exfalso; omega
set_option maxHeartbeats 4000000 in
theorem c_X4_keep (l : Launch) (E : Nat → Nat → Nat) (h b : Nat) (co : Nat → Int → Int) (hc : Nat → Nat → Int → Int) (nx sz : Int) (n0 : 0 ≤ nx) (n1 : nx < 8) (s0 : 0 ≤ sz) (s1 : sz ≤ 8) (d1 : h + 2 ≤ h + 2 ∨ h + 2 + 224 ≤ h) (d2 : h + 2 ≤ b ∨ b + 28 ≤ h) (d3 : h + 2 + 224 ≤ b ∨ b + 28 ≤ h + 2) : Mu l yX4_keep cX4_keep 3 none 3 0 0 E [(h, 2), (h + 2, 224)] [.ref h, .ref b] (fun H => PR E h [(h, .inr (7, [.ref (h + 1), .int (zI nx), .int (zI sz)])), (h + 1, .inl (E 102 3, 8, .inr (.inr (.inr (.inr (hisA (h + 2) 8))))))] H ∧ HF E (h + 2) 8 hc H ∧ PR E b (courtW E b co) H) (fun rv H => rv = none ∧ PR E h [(h, .inr (7, [.ref (h + 1), .int (zI (if nx < 7 then nx + 1 else 0)), .int (zI (min (sz + 1) 8))])), (h + 1, .inl (E 102 3, 8, .inr (.inr (.inr (.inr (hisA (h + 2) 8))))))] H ∧ HF E (h + 2) 8 (fun j => if j = nx.toNat then co else hc j) H) := by
  by_cases q : nx < 7
  · rw [if_pos q]
    exact c_X4_keep1 l E h b co hc nx sz n0 n1 s0 s1 q d1 d2 d3
  · rw [if_neg q]
    exact c_X4_keep0 l E h b co hc nx sz n0 n1 s0 s1 (by omega) d1 d2 d3
