set_option maxHeartbeats 4000000 in
set_option maxRecDepth 20000 in
theorem c_X9_docketAt (l : Launch) (E : Nat → Nat → Nat) (x : Nat) (co : Nat → Int → Int) (hs : Int) (er : Int) (fa : Int) (ss : Int) (q : Int) (dk : Nat → Int → Int) (hO : OkC co) (gq : Rg q) (k0 : 0 ≤ q ∧ q < (dkM co (co 0 0).toNat : Int)) (hd_cm_dk : x + 1 ≤ x + 311 ∨ x + 311 + 3 ≤ x) (hd_co_dk : x + 1 + 28 ≤ x + 311 ∨ x + 311 + 3 ≤ x + 1) : Mu l yX9_docketAt cX9_docketAt 2 (some .int) 4 0 0 E [(x + 311, 3)] [.ref x, .int (zI q)] (fun H => PR E x [(x, .inr (11, [.ref (x + 1), .ref (x + 29), .ref (x + 57), .ref (x + 85), .ref (x + 311), .ref (x + 314), .ref (x + 319), .ref (x + 332), .int (zI hs), .int (zI er), .int (zI fa), .int (zI ss)]))] H ∧ PR E (x + 1) (courtW E (x + 1) co) H ∧ PR E (x + 311) (docketW E (x + 311) dk) H) (fun rv H => rv = some (.int (zI (dkG co (dk 1) (co 0 0).toNat q))) ∧ PR E (x + 311) (docketW E (x + 311) (updC (updC dk 0 (updZ (dk 0) 1 (dkM co (co 0 0).toNat : Int))) 1 (dkG co (dk 1) (co 0 0).toNat))) H) := by
  refine Mu.start (own := RX9) rfl (by decide +kernel) (Nat.le_of_ble_eq_true rfl) ?_
  intro p e s m below meth cd args Q hQ X hr hlk hnm hM hPr
  obtain ⟨h_cm, h_co, h_dk⟩ := hPr
  have hb0 := hO.b0
  have hbw := hO.bw
  have hdm := dkM_le co (co 0 0).toNat
  refine v_aload_n X dX9_docketAt_0 1 rfl 0 rfl ?_
  refine v_getf X hM.C h_cm.1 inX9 0 rfl rfl 4 (by decide) kf_X9_32 (fun _ h => h) rfl dX9_docketAt_1 4 rfl ?_
  refine v_aload_n X dX9_docketAt_4 5 rfl 0 rfl ?_
  refine v_getf X hM.C h_cm.1 inX9 0 rfl rfl 0 (by decide) kf_X9_10 (fun _ h => h) rfl dX9_docketAt_5 8 rfl ?_
  refine v_muV X hM (h_dk.1) (c_X1_fill l E (x + 311) dk (x + 1) co hO (by omega)) kvX1_fill kiX1_fill kl_X9_207 (q0 := 0) rfl rfl (As := [.ref (x + 1)]) rfl rfl rfl dX9_docketAt_8 11 rfl (k' := 0) (n' := 0) rfl rfl (fsI (fun q q1 q2 => (Or.inl (fsH (by omega) (by omega))))) ⟨h_dk, h_co⟩ (fun rv H1 lo1 hM hF hpo => ?_)
  obtain ⟨rfl, hw_0⟩ := hpo
  have h_dk : PR E (x + 311) (docketW E (x + 311) (updC (updC dk 0 (updZ (dk 0) 1 (dkM co (co 0 0).toNat : Int))) 1 (dkG co ((dk 1)) (co 0 0).toNat))) H1 := hw_0
  replace h_cm := h_cm.kept hF 1 rfl (fsd (by omega))
  replace h_co := h_co.kept hF 28 rfl (fsd (by omega))
  show V p l e (rmL 4 0 0) s m args below meth cd Q 2 H1 lo1 0 0 11 [(0, .ref x), (1, .int (zI q))] []
  refine v_iload_n X dX9_docketAt_11 12 rfl 1 rfl ?_
  refine v_if_lt X (by omega) dX9_docketAt_12 15 26 rfl (by decide) (fun c_2 => ?_) (fun c_2 => ?_)
  · skip
    exfalso; omega
  · skip
    refine v_iload_n X dX9_docketAt_15 16 rfl 1 rfl ?_
    refine v_aload_n X dX9_docketAt_16 17 rfl 0 rfl ?_
    refine v_getf X hM.C h_cm.1 inX9 0 rfl rfl 4 (by decide) kf_X9_32 (fun _ h => h) rfl dX9_docketAt_17 20 rfl ?_
    refine v_getfN X hM.C h_dk.1 inX1 0 rfl rfl 1 (by decide) kfn_X9_244 (fun _ h => h) rfl dX9_docketAt_20 23 rfl ?_
    show V p l e (rmL 4 0 0) s m args below meth cd Q 2 H1 lo1 0 0 23 [(0, .ref x), (1, .int (zI q))] [.int (zI (dkM co (co 0 0).toNat : Int)), .int (zI q)]
    have hb_4 := hO.b0
    refine v_icmp_lt X (by omega) (by omega) dX9_docketAt_23 26 36 rfl (by decide) (fun c_3 => ?_) (fun c_3 => ?_)
    · skip
      refine v_aload_n X dX9_docketAt_36 37 rfl 0 rfl ?_
      refine v_getf X hM.C h_cm.1 inX9 0 rfl rfl 4 (by decide) kf_X9_32 (fun _ h => h) rfl dX9_docketAt_37 40 rfl ?_
      refine v_getfN X hM.C h_dk.1 inX1 0 rfl rfl 0 (by decide) kfn_X9_249 (fun _ h => h) rfl dX9_docketAt_40 43 rfl ?_
      refine v_iload_n X dX9_docketAt_43 44 rfl 1 rfl ?_
      refine v_rdV X hM.C (PW.part h_dk.1 1 2 (wc := rowW E (x + 312) 16 (dkG co ((dk 1)) (co 0 0).toNat)) rfl) (c_X6_get l E (x + 312) 16 (dkG co ((dk 1)) (co 0 0).toNat) q (by omega) (by omega) (by omega)) kvX6_get kiX6_get kl_X9_109 rfl rfl (As := [.int (zI q)]) rfl rfl rfl dX9_docketAt_44 47 rfl ?_
      show V p l e (rmL 4 0 0) s m args below meth cd Q 2 H1 lo1 0 0 47 [(0, .ref x), (1, .int (zI q))] [.int (zI ((dkG co ((dk 1)) (co 0 0).toNat) q))]
      subst hQ; exact m_iret X hr hlk hM dX9_docketAt_47 rfl ⟨(sv (by omega)), h_dk⟩
    · skip
      exfalso; omega
set_option maxHeartbeats 4000000 in
set_option maxRecDepth 20000 in
theorem x_X9_docketAt_0 (l : Launch) (hl : l.stackTraces = false) (E : Nat → Nat → Nat) (x : Nat) (co : Nat → Int → Int) (hs : Int) (er : Int) (fa : Int) (ss : Int) (q : Int) (dk : Nat → Int → Int) (hO : OkC co) (gq : Rg q) (nk : ¬ (0 ≤ q ∧ q < (dkM co (co 0 0).toNat : Int))) (hd_cm_dk : x + 1 ≤ x + 311 ∨ x + 311 + 3 ≤ x) (hd_co_dk : x + 1 + 28 ≤ x + 311 ∨ x + 311 + 3 ≤ x + 1) : Tx l yX9_docketAt cX9_docketAt 2 (some .int) 6 1 6 E [(x + 311, 3)] [.ref x, .int (zI q)] (fun H => PR E x [(x, .inr (11, [.ref (x + 1), .ref (x + 29), .ref (x + 57), .ref (x + 85), .ref (x + 311), .ref (x + 314), .ref (x + 319), .ref (x + 332), .int (zI hs), .int (zI er), .int (zI fa), .int (zI ss)]))] H ∧ PR E (x + 1) (courtW E (x + 1) co) H ∧ PR E (x + 311) (docketW E (x + 311) dk) H) "java/util/NoSuchElementException" (fun H => PR E (x + 311) (docketW E (x + 311) (updC (updC dk 0 (updZ (dk 0) 1 (dkM co (co 0 0).toNat : Int))) 1 (dkG co (dk 1) (co 0 0).toNat))) H) := by
  refine Tx.start (own := RX9) rfl (by decide +kernel) (Nat.le_of_ble_eq_true rfl) ?_
  intro p e s m below meth cd args Q hQ X tb hlk hM hPr
  obtain ⟨h_cm, h_co, h_dk⟩ := hPr
  have hb0 := hO.b0
  have hbw := hO.bw
  have hdm := dkM_le co (co 0 0).toNat
  refine v_aload_n X dX9_docketAt_0 1 rfl 0 rfl ?_
  refine v_getf X hM.C h_cm.1 inX9 0 rfl rfl 4 (by decide) kf_X9_32 (fun _ h => h) rfl dX9_docketAt_1 4 rfl ?_
  refine v_aload_n X dX9_docketAt_4 5 rfl 0 rfl ?_
  refine v_getf X hM.C h_cm.1 inX9 0 rfl rfl 0 (by decide) kf_X9_10 (fun _ h => h) rfl dX9_docketAt_5 8 rfl ?_
  refine v_muV X hM (h_dk.1) (c_X1_fill l E (x + 311) dk (x + 1) co hO (by omega)) kvX1_fill kiX1_fill kl_X9_207 (q0 := 0) rfl rfl (As := [.ref (x + 1)]) rfl rfl rfl dX9_docketAt_8 11 rfl (k' := 0) (n' := 0) rfl rfl (fsI (fun q q1 q2 => (Or.inl (fsH (by omega) (by omega))))) ⟨h_dk, h_co⟩ (fun rv H1 lo1 hM hF hpo => ?_)
  obtain ⟨rfl, hw_0⟩ := hpo
  have h_dk : PR E (x + 311) (docketW E (x + 311) (updC (updC dk 0 (updZ (dk 0) 1 (dkM co (co 0 0).toNat : Int))) 1 (dkG co ((dk 1)) (co 0 0).toNat))) H1 := hw_0
  replace h_cm := h_cm.kept hF 1 rfl (fsd (by omega))
  replace h_co := h_co.kept hF 28 rfl (fsd (by omega))
  show V p l e (rmL 6 1 6) s m args below meth cd Q 2 H1 lo1 0 0 11 [(0, .ref x), (1, .int (zI q))] []
  refine v_iload_n X dX9_docketAt_11 12 rfl 1 rfl ?_
  refine v_if_lt X (by omega) dX9_docketAt_12 15 26 rfl (by decide) (fun c_2 => ?_) (fun c_2 => ?_)
  · skip
    subst hQ; exact v_throw X hl tb hlk hM xt_NSE xk_NSE 22 rfl dX9_docketAt_26 dX9_docketAt_29 dX9_docketAt_30 dX9_docketAt_32 dX9_docketAt_35 rfl (fun H1 hF => (h_dk.kept hF 3 rfl (fun q _ _ h => h.elim)))
  · skip
    refine v_iload_n X dX9_docketAt_15 16 rfl 1 rfl ?_
    refine v_aload_n X dX9_docketAt_16 17 rfl 0 rfl ?_
    refine v_getf X hM.C h_cm.1 inX9 0 rfl rfl 4 (by decide) kf_X9_32 (fun _ h => h) rfl dX9_docketAt_17 20 rfl ?_
    refine v_getfN X hM.C h_dk.1 inX1 0 rfl rfl 1 (by decide) kfn_X9_244 (fun _ h => h) rfl dX9_docketAt_20 23 rfl ?_
    show V p l e (rmL 6 1 6) s m args below meth cd Q 2 H1 lo1 0 0 23 [(0, .ref x), (1, .int (zI q))] [.int (zI (dkM co (co 0 0).toNat : Int)), .int (zI q)]
    have hb_4 := hO.b0
    refine v_icmp_lt X (by omega) (by omega) dX9_docketAt_23 26 36 rfl (by decide) (fun c_3 => ?_) (fun c_3 => ?_)
    · skip
      refine v_aload_n X dX9_docketAt_36 37 rfl 0 rfl ?_
      refine v_getf X hM.C h_cm.1 inX9 0 rfl rfl 4 (by decide) kf_X9_32 (fun _ h => h) rfl dX9_docketAt_37 40 rfl ?_
      refine v_getfN X hM.C h_dk.1 inX1 0 rfl rfl 0 (by decide) kfn_X9_249 (fun _ h => h) rfl dX9_docketAt_40 43 rfl ?_
      refine v_iload_n X dX9_docketAt_43 44 rfl 1 rfl ?_
      refine v_rdV X hM.C (PW.part h_dk.1 1 2 (wc := rowW E (x + 312) 16 (dkG co ((dk 1)) (co 0 0).toNat)) rfl) (c_X6_get l E (x + 312) 16 (dkG co ((dk 1)) (co 0 0).toNat) q (by omega) (by omega) (by omega)) kvX6_get kiX6_get kl_X9_109 rfl rfl (As := [.int (zI q)]) rfl rfl rfl dX9_docketAt_44 47 rfl ?_
      show V p l e (rmL 6 1 6) s m args below meth cd Q 2 H1 lo1 0 0 47 [(0, .ref x), (1, .int (zI q))] [.int (zI ((dkG co ((dk 1)) (co 0 0).toNat) q))]
      exfalso; omega
    · skip
      subst hQ; exact v_throw X hl tb hlk hM xt_NSE xk_NSE 22 rfl dX9_docketAt_26 dX9_docketAt_29 dX9_docketAt_30 dX9_docketAt_32 dX9_docketAt_35 rfl (fun H1 hF => (h_dk.kept hF 3 rfl (fun q _ _ h => h.elim)))
theorem fhC_b {co : Nat → Int → Int} {g : Int → Int} {n : Nat} (hg : ∀ p : Int, 0 ≤ p → p < (n : Int) → 0 ≤ g p ∧ g p < 16) : -1 ≤ fhC co g n ∧ fhC co g n < 16 := by
  unfold fhC
  have h := firstZ_b (fun p => 0 < co 6 (g p)) n
  split
  · omega
  · have := hg (firstZ (fun p => 0 < co 6 (g p)) n) (by omega) (by omega)
    omega
set_option maxHeartbeats 4000000 in
set_option maxRecDepth 20000 in
theorem c_X9_nextToDecide (l : Launch) (E : Nat → Nat → Nat) (x : Nat) (co : Nat → Int → Int) (hs : Int) (er : Int) (fa : Int) (ss : Int) (dk : Nat → Int → Int) (hO : OkC co) (k0 : 0 ≤ fhC co (dkG co (dk 1) (co 0 0).toNat) (dkM co (co 0 0).toNat)) (hd_cm_dk : x + 1 ≤ x + 311 ∨ x + 311 + 3 ≤ x) (hd_co_dk : x + 1 + 28 ≤ x + 311 ∨ x + 311 + 3 ≤ x + 1) : Mu l yX9_nextToDecide cX9_nextToDecide 2 (some .int) 4 0 0 E [(x + 311, 3)] [.ref x] (fun H => PR E x [(x, .inr (11, [.ref (x + 1), .ref (x + 29), .ref (x + 57), .ref (x + 85), .ref (x + 311), .ref (x + 314), .ref (x + 319), .ref (x + 332), .int (zI hs), .int (zI er), .int (zI fa), .int (zI ss)]))] H ∧ PR E (x + 1) (courtW E (x + 1) co) H ∧ PR E (x + 311) (docketW E (x + 311) dk) H) (fun rv H => rv = some (.int (zI (fhC co (dkG co (dk 1) (co 0 0).toNat) (dkM co (co 0 0).toNat)))) ∧ PR E (x + 311) (docketW E (x + 311) (updC (updC dk 0 (updZ (dk 0) 1 (dkM co (co 0 0).toNat : Int))) 1 (dkG co (dk 1) (co 0 0).toNat))) H) := by
  refine Mu.start (own := RX9) rfl (by decide +kernel) (Nat.le_of_ble_eq_true rfl) ?_
  intro p e s m below meth cd args Q hQ X hr hlk hnm hM hPr
  obtain ⟨h_cm, h_co, h_dk⟩ := hPr
  have hb0 := hO.b0
  have hbw := hO.bw
  have hdm := dkM_le co (co 0 0).toNat
  have hgo : ∀ p : Int, 0 ≤ p → p < (dkM co (co 0 0).toNat : Int) → 0 ≤ dkG co (dk 1) (co 0 0).toNat p ∧ dkG co (dk 1) (co 0 0).toNat p < 16 := fun p a b => by have h := dkG_b co (dk 1) (co 0 0).toNat p a b; exact ⟨h.1, Int.lt_of_lt_of_le h.2 (by omega)⟩
  have hfh := fhC_b (co := co) hgo
  refine v_aload_n X dX9_nextToDecide_0 1 rfl 0 rfl ?_
  refine v_getf X hM.C h_cm.1 inX9 0 rfl rfl 4 (by decide) kf_X9_32 (fun _ h => h) rfl dX9_nextToDecide_1 4 rfl ?_
  refine v_aload_n X dX9_nextToDecide_4 5 rfl 0 rfl ?_
  refine v_getf X hM.C h_cm.1 inX9 0 rfl rfl 0 (by decide) kf_X9_10 (fun _ h => h) rfl dX9_nextToDecide_5 8 rfl ?_
  refine v_muV X hM (h_dk.1) (c_X1_fill l E (x + 311) dk (x + 1) co hO (by omega)) kvX1_fill kiX1_fill kl_X9_207 (q0 := 0) rfl rfl (As := [.ref (x + 1)]) rfl rfl rfl dX9_nextToDecide_8 11 rfl (k' := 0) (n' := 0) rfl rfl (fsI (fun q q1 q2 => (Or.inl (fsH (by omega) (by omega))))) ⟨h_dk, h_co⟩ (fun rv H1 lo1 hM hF hpo => ?_)
  obtain ⟨rfl, hw_0⟩ := hpo
  have h_dk : PR E (x + 311) (docketW E (x + 311) (updC (updC dk 0 (updZ (dk 0) 1 (dkM co (co 0 0).toNat : Int))) 1 (dkG co ((dk 1)) (co 0 0).toNat))) H1 := hw_0
  replace h_cm := h_cm.kept hF 1 rfl (fsd (by omega))
  replace h_co := h_co.kept hF 28 rfl (fsd (by omega))
  show V p l e (rmL 4 0 0) s m args below meth cd Q 2 H1 lo1 0 0 11 [(0, .ref x)] []
  refine v_aload_n X dX9_nextToDecide_11 12 rfl 0 rfl ?_
  refine v_getf X hM.C h_cm.1 inX9 0 rfl rfl 4 (by decide) kf_X9_32 (fun _ h => h) rfl dX9_nextToDecide_12 15 rfl ?_
  refine v_aload_n X dX9_nextToDecide_15 16 rfl 0 rfl ?_
  refine v_getf X hM.C h_cm.1 inX9 0 rfl rfl 0 (by decide) kf_X9_10 (fun _ h => h) rfl dX9_nextToDecide_16 19 rfl ?_
  have hb_2 := hO.b0
  refine v_rdV X hM.C (PW.app h_dk.1 h_co.1) (c_X1_firstHeard l E (x + 311) (updC (updC dk 0 (updZ (dk 0) 1 (dkM co (co 0 0).toNat : Int))) 1 (dkG co ((dk 1)) (co 0 0).toNat)) (x + 1) co (dkM co (co 0 0).toNat) hO rfl (by omega) hgo) kvX1_firstHeard kiX1_firstHeard kl_X9_211 rfl rfl (As := [.ref (x + 1)]) rfl rfl rfl dX9_nextToDecide_19 22 rfl ?_
  show V p l e (rmL 4 0 0) s m args below meth cd Q 2 H1 lo1 0 0 22 [(0, .ref x)] [.int (zI (fhC co ((dkG co ((dk 1)) (co 0 0).toNat)) (dkM co (co 0 0).toNat)))]
  refine v_istore_n X dX9_nextToDecide_22 23 rfl rfl (by decide) (L' := [(1, .int (zI (fhC co ((dkG co ((dk 1)) (co 0 0).toNat)) (dkM co (co 0 0).toNat)))), (0, .ref x)]) rfl ?_
  refine v_iload_n X dX9_nextToDecide_23 24 rfl 0 rfl ?_
  refine v_iconst X dX9_nextToDecide_24 25 rfl ?_
  refine v_icmp_ne X (by omega) (by omega) dX9_nextToDecide_25 28 38 rfl (by decide) (fun c_3 => ?_) (fun c_3 => ?_)
  · skip
    refine v_iload_n X dX9_nextToDecide_38 39 rfl 0 rfl ?_
    subst hQ; exact m_iret X hr hlk hM dX9_nextToDecide_39 rfl ⟨(sv (by omega)), h_dk⟩
  · skip
    exfalso; omega
set_option maxHeartbeats 4000000 in
set_option maxRecDepth 20000 in
theorem x_X9_nextToDecide_0 (l : Launch) (hl : l.stackTraces = false) (E : Nat → Nat → Nat) (x : Nat) (co : Nat → Int → Int) (hs : Int) (er : Int) (fa : Int) (ss : Int) (dk : Nat → Int → Int) (hO : OkC co) (nk : ¬ (0 ≤ fhC co (dkG co (dk 1) (co 0 0).toNat) (dkM co (co 0 0).toNat))) (hd_cm_dk : x + 1 ≤ x + 311 ∨ x + 311 + 3 ≤ x) (hd_co_dk : x + 1 + 28 ≤ x + 311 ∨ x + 311 + 3 ≤ x + 1) : Tx l yX9_nextToDecide cX9_nextToDecide 2 (some .int) 6 1 6 E [(x + 311, 3)] [.ref x] (fun H => PR E x [(x, .inr (11, [.ref (x + 1), .ref (x + 29), .ref (x + 57), .ref (x + 85), .ref (x + 311), .ref (x + 314), .ref (x + 319), .ref (x + 332), .int (zI hs), .int (zI er), .int (zI fa), .int (zI ss)]))] H ∧ PR E (x + 1) (courtW E (x + 1) co) H ∧ PR E (x + 311) (docketW E (x + 311) dk) H) "java/util/NoSuchElementException" (fun H => PR E (x + 311) (docketW E (x + 311) (updC (updC dk 0 (updZ (dk 0) 1 (dkM co (co 0 0).toNat : Int))) 1 (dkG co (dk 1) (co 0 0).toNat))) H) := by
  refine Tx.start (own := RX9) rfl (by decide +kernel) (Nat.le_of_ble_eq_true rfl) ?_
  intro p e s m below meth cd args Q hQ X tb hlk hM hPr
  obtain ⟨h_cm, h_co, h_dk⟩ := hPr
  have hb0 := hO.b0
  have hbw := hO.bw
  have hdm := dkM_le co (co 0 0).toNat
  have hgo : ∀ p : Int, 0 ≤ p → p < (dkM co (co 0 0).toNat : Int) → 0 ≤ dkG co (dk 1) (co 0 0).toNat p ∧ dkG co (dk 1) (co 0 0).toNat p < 16 := fun p a b => by have h := dkG_b co (dk 1) (co 0 0).toNat p a b; exact ⟨h.1, Int.lt_of_lt_of_le h.2 (by omega)⟩
  have hfh := fhC_b (co := co) hgo
  refine v_aload_n X dX9_nextToDecide_0 1 rfl 0 rfl ?_
  refine v_getf X hM.C h_cm.1 inX9 0 rfl rfl 4 (by decide) kf_X9_32 (fun _ h => h) rfl dX9_nextToDecide_1 4 rfl ?_
  refine v_aload_n X dX9_nextToDecide_4 5 rfl 0 rfl ?_
  refine v_getf X hM.C h_cm.1 inX9 0 rfl rfl 0 (by decide) kf_X9_10 (fun _ h => h) rfl dX9_nextToDecide_5 8 rfl ?_
  refine v_muV X hM (h_dk.1) (c_X1_fill l E (x + 311) dk (x + 1) co hO (by omega)) kvX1_fill kiX1_fill kl_X9_207 (q0 := 0) rfl rfl (As := [.ref (x + 1)]) rfl rfl rfl dX9_nextToDecide_8 11 rfl (k' := 0) (n' := 0) rfl rfl (fsI (fun q q1 q2 => (Or.inl (fsH (by omega) (by omega))))) ⟨h_dk, h_co⟩ (fun rv H1 lo1 hM hF hpo => ?_)
  obtain ⟨rfl, hw_0⟩ := hpo
  have h_dk : PR E (x + 311) (docketW E (x + 311) (updC (updC dk 0 (updZ (dk 0) 1 (dkM co (co 0 0).toNat : Int))) 1 (dkG co ((dk 1)) (co 0 0).toNat))) H1 := hw_0
  replace h_cm := h_cm.kept hF 1 rfl (fsd (by omega))
  replace h_co := h_co.kept hF 28 rfl (fsd (by omega))
  show V p l e (rmL 6 1 6) s m args below meth cd Q 2 H1 lo1 0 0 11 [(0, .ref x)] []
  refine v_aload_n X dX9_nextToDecide_11 12 rfl 0 rfl ?_
  refine v_getf X hM.C h_cm.1 inX9 0 rfl rfl 4 (by decide) kf_X9_32 (fun _ h => h) rfl dX9_nextToDecide_12 15 rfl ?_
  refine v_aload_n X dX9_nextToDecide_15 16 rfl 0 rfl ?_
  refine v_getf X hM.C h_cm.1 inX9 0 rfl rfl 0 (by decide) kf_X9_10 (fun _ h => h) rfl dX9_nextToDecide_16 19 rfl ?_
  have hb_2 := hO.b0
  refine v_rdV X hM.C (PW.app h_dk.1 h_co.1) (c_X1_firstHeard l E (x + 311) (updC (updC dk 0 (updZ (dk 0) 1 (dkM co (co 0 0).toNat : Int))) 1 (dkG co ((dk 1)) (co 0 0).toNat)) (x + 1) co (dkM co (co 0 0).toNat) hO rfl (by omega) hgo) kvX1_firstHeard kiX1_firstHeard kl_X9_211 rfl rfl (As := [.ref (x + 1)]) rfl rfl rfl dX9_nextToDecide_19 22 rfl ?_
  show V p l e (rmL 6 1 6) s m args below meth cd Q 2 H1 lo1 0 0 22 [(0, .ref x)] [.int (zI (fhC co ((dkG co ((dk 1)) (co 0 0).toNat)) (dkM co (co 0 0).toNat)))]
  refine v_istore_n X dX9_nextToDecide_22 23 rfl rfl (by decide) (L' := [(1, .int (zI (fhC co ((dkG co ((dk 1)) (co 0 0).toNat)) (dkM co (co 0 0).toNat)))), (0, .ref x)]) rfl ?_
  refine v_iload_n X dX9_nextToDecide_23 24 rfl 0 rfl ?_
  refine v_iconst X dX9_nextToDecide_24 25 rfl ?_
  refine v_icmp_ne X (by omega) (by omega) dX9_nextToDecide_25 28 38 rfl (by decide) (fun c_3 => ?_) (fun c_3 => ?_)
  · skip
    refine v_iload_n X dX9_nextToDecide_38 39 rfl 0 rfl ?_
    exfalso; omega
  · skip
    subst hQ; exact v_throw X hl tb hlk hM xt_NSE xk_NSE 19 rfl dX9_nextToDecide_28 dX9_nextToDecide_31 dX9_nextToDecide_32 dX9_nextToDecide_34 dX9_nextToDecide_37 rfl (fun H1 hF => (h_dk.kept hF 3 rfl (fun q _ _ h => h.elim)))
set_option maxHeartbeats 4000000 in
set_option maxRecDepth 20000 in
theorem c_X9_areConnectedBySearch (l : Launch) (E : Nat → Nat → Nat) (x : Nat) (co : Nat → Int → Int) (hs : Int) (er : Int) (fa : Int) (ss : Int) (w : Int) (y : Int) (se : Nat → Int → Int) (hO : OkC co) (gw : Rg w) (gy : Rg y) (k0 : 0 ≤ w ∧ w < co 0 1) (k1 : 0 ≤ y ∧ y < co 0 1) (hcn : ∀ (se : Nat → Int → Int) (h : Nat), h ≤ 8 → (8 ≤ h ∨ stC co se w h 0 2 ≤ (h : Int)) → (∀ j : Nat, j < h → (j : Int) < stC co se w j 0 2) → (¬ stC co se w h 2 y = 0 ↔ rtF (co 13) 8 w = rtF (co 13) 8 y)) (hd_cm_se : x + 1 ≤ x + 314 ∨ x + 314 + 5 ≤ x) (hd_co_se : x + 1 + 28 ≤ x + 314 ∨ x + 314 + 5 ≤ x + 1) : Mu l yX9_areConnectedBySearch cX9_areConnectedBySearch 3 (some .boolean) 5 0 0 E [(x + 314, 5)] [.ref x, .int (zI w), .int (zI y)] (fun H => PR E x [(x, .inr (11, [.ref (x + 1), .ref (x + 29), .ref (x + 57), .ref (x + 85), .ref (x + 311), .ref (x + 314), .ref (x + 319), .ref (x + 332), .int (zI hs), .int (zI er), .int (zI fa), .int (zI ss)]))] H ∧ PR E (x + 1) (courtW E (x + 1) co) H ∧ PR E (x + 314) (searchW E (x + 314) se) H) (fun rv H => ∃ h : Nat, rv = some (.int (zI (bz (rtF (co 13) 8 w = rtF (co 13) 8 y)))) ∧ PR E (x + 314) (searchW E (x + 314) (stC co se w h)) H) := by
  refine Mu.start (own := RX9) rfl (by decide +kernel) (Nat.le_of_ble_eq_true rfl) ?_
  intro p e s m below meth cd args Q hQ X hr hlk hnm hM hPr
  obtain ⟨h_cm, h_co, h_se⟩ := hPr
  have hb0 := hO.b0
  have hbw := hO.bw
  refine v_aload_n X dX9_areConnectedBySearch_0 1 rfl 0 rfl ?_
  refine v_iload_n X dX9_areConnectedBySearch_1 2 rfl 1 rfl ?_
  refine v_rdV X hM.C (PW.app h_cm.1 h_co.1) (c_X9_needWitness l E x co hs er fa ss w hO gw k0) kvX9_needWitness kiX9_needWitness kl_X9_141 rfl rfl (As := [.int (zI w)]) rfl rfl rfl dX9_areConnectedBySearch_2 5 rfl ?_
  show V p l e (rmL 5 0 0) s m args below meth cd Q 3 s.heap [] 0 0 5 [(0, .ref x), (1, .int (zI w)), (2, .int (zI y))] []
  refine v_aload_n X dX9_areConnectedBySearch_5 6 rfl 0 rfl ?_
  refine v_iload_n X dX9_areConnectedBySearch_6 7 rfl 2 rfl ?_
  refine v_rdV X hM.C (PW.app h_cm.1 h_co.1) (c_X9_needWitness l E x co hs er fa ss y hO gy k1) kvX9_needWitness kiX9_needWitness kl_X9_141 rfl rfl (As := [.int (zI y)]) rfl rfl rfl dX9_areConnectedBySearch_7 10 rfl ?_
  show V p l e (rmL 5 0 0) s m args below meth cd Q 3 s.heap [] 0 0 10 [(0, .ref x), (1, .int (zI w)), (2, .int (zI y))] []
  refine v_aload_n X dX9_areConnectedBySearch_10 11 rfl 0 rfl ?_
  refine v_getf X hM.C h_cm.1 inX9 0 rfl rfl 5 (by decide) kf_X9_39 (fun _ h => h) rfl dX9_areConnectedBySearch_11 14 rfl ?_
  refine v_iload_n X dX9_areConnectedBySearch_14 15 rfl 1 rfl ?_
  refine v_aload_n X dX9_areConnectedBySearch_15 16 rfl 0 rfl ?_
  refine v_getf X hM.C h_cm.1 inX9 0 rfl rfl 0 (by decide) kf_X9_10 (fun _ h => h) rfl dX9_areConnectedBySearch_16 19 rfl ?_
  refine v_muV X hM (h_se.1) (c_X7_startAt l E (x + 314) se (x + 1) co w hO (by omega) (by omega) (by omega)) kvX7_startAt kiX7_startAt kl_X9_186 (q0 := 0) rfl rfl (As := [.int (zI w), .ref (x + 1)]) rfl rfl rfl dX9_areConnectedBySearch_19 22 rfl (k' := 0) (n' := 0) rfl rfl (fsI (fun q q1 q2 => (Or.inl (fsH (by omega) (by omega))))) ⟨h_se, h_co⟩ (fun rv H1 lo1 hM hF hpo => ?_)
  obtain ⟨h_2, rfl, hp_f_3, hp_f_4, hp_f_5, hw_0⟩ := hpo
  have h_se : PR E (x + 314) (searchW E (x + 314) (stC co se w h_2)) H1 := hw_0
  replace h_cm := h_cm.kept hF 1 rfl (fsd (by omega))
  replace h_co := h_co.kept hF 28 rfl (fsd (by omega))
  show V p l e (rmL 5 0 0) s m args below meth cd Q 3 H1 lo1 0 0 22 [(0, .ref x), (1, .int (zI w)), (2, .int (zI y))] []
  refine v_aload_n X dX9_areConnectedBySearch_22 23 rfl 0 rfl ?_
  refine v_getf X hM.C h_cm.1 inX9 0 rfl rfl 5 (by decide) kf_X9_39 (fun _ h => h) rfl dX9_areConnectedBySearch_23 26 rfl ?_
  refine v_iload_n X dX9_areConnectedBySearch_26 27 rfl 2 rfl ?_
  refine v_rdV X hM.C h_se.1 (c_X7_hasReached l E (x + 314) (stC co se w h_2) y (stC_SI hO _ (by omega) (by omega) _) (by omega) (by omega)) kvX7_hasReached kiX7_hasReached kl_X9_190 rfl rfl (As := [.int (zI y)]) rfl rfl rfl dX9_areConnectedBySearch_27 30 rfl ?_
  show V p l e (rmL 5 0 0) s m args below meth cd Q 3 H1 lo1 0 0 30 [(0, .ref x), (1, .int (zI w)), (2, .int (zI y))] [.int (zI (bz (¬ ((stC co se w h_2) 2) y = 0)))]
  subst hQ; exact m_zret X hr hlk hM dX9_areConnectedBySearch_30 rfl bz_01 ⟨_, (sv (Eq.symm (bz_iff (by exact hcn se _ (by assumption) (by assumption) (by assumption))))), h_se⟩
set_option maxHeartbeats 4000000 in
set_option maxRecDepth 20000 in
theorem x_X9_areConnectedBySearch_0 (l : Launch) (hl : l.stackTraces = false) (E : Nat → Nat → Nat) (x : Nat) (co : Nat → Int → Int) (hs : Int) (er : Int) (fa : Int) (ss : Int) (w : Int) (y : Int) (hO : OkC co) (gw : Rg w) (gy : Rg y) (nk : ¬ (0 ≤ w ∧ w < co 0 1)) : Tx l yX9_areConnectedBySearch cX9_areConnectedBySearch 3 (some .boolean) 7 1 6 E [] [.ref x, .int (zI w), .int (zI y)] (fun H => PR E x [(x, .inr (11, [.ref (x + 1), .ref (x + 29), .ref (x + 57), .ref (x + 85), .ref (x + 311), .ref (x + 314), .ref (x + 319), .ref (x + 332), .int (zI hs), .int (zI er), .int (zI fa), .int (zI ss)]))] H ∧ PR E (x + 1) (courtW E (x + 1) co) H) "java/lang/IndexOutOfBoundsException" (fun H => True) := by
  refine Tx.start (own := RX9) rfl (by decide +kernel) (Nat.le_of_ble_eq_true rfl) ?_
  intro p e s m below meth cd args Q hQ X tb hlk hM hPr
  obtain ⟨h_cm, h_co⟩ := hPr
  have hb0 := hO.b0
  have hbw := hO.bw
  refine v_aload_n X dX9_areConnectedBySearch_0 1 rfl 0 rfl ?_
  refine v_iload_n X dX9_areConnectedBySearch_1 2 rfl 1 rfl ?_
  subst hQ; exact v_txV X tb hlk hM (h_cm.1) (x_X9_needWitness_0 l hl E x co hs er fa ss w hO gw nk) kvX9_needWitness kiX9_needWitness kl_X9_141 (q0 := 0) rfl rfl (As := [.int (zI w)]) rfl rfl rfl rfl dX9_areConnectedBySearch_2 (fun q hq => hq.elim) ⟨h_cm, h_co⟩ (fun H1 hF hpo => trivial)
set_option maxHeartbeats 4000000 in
set_option maxRecDepth 20000 in
theorem x_X9_areConnectedBySearch_1 (l : Launch) (hl : l.stackTraces = false) (E : Nat → Nat → Nat) (x : Nat) (co : Nat → Int → Int) (hs : Int) (er : Int) (fa : Int) (ss : Int) (w : Int) (y : Int) (hO : OkC co) (gw : Rg w) (gy : Rg y) (k0 : 0 ≤ w ∧ w < co 0 1) (nk : ¬ (0 ≤ y ∧ y < co 0 1)) : Tx l yX9_areConnectedBySearch cX9_areConnectedBySearch 3 (some .boolean) 7 1 6 E [] [.ref x, .int (zI w), .int (zI y)] (fun H => PR E x [(x, .inr (11, [.ref (x + 1), .ref (x + 29), .ref (x + 57), .ref (x + 85), .ref (x + 311), .ref (x + 314), .ref (x + 319), .ref (x + 332), .int (zI hs), .int (zI er), .int (zI fa), .int (zI ss)]))] H ∧ PR E (x + 1) (courtW E (x + 1) co) H) "java/lang/IndexOutOfBoundsException" (fun H => True) := by
  refine Tx.start (own := RX9) rfl (by decide +kernel) (Nat.le_of_ble_eq_true rfl) ?_
  intro p e s m below meth cd args Q hQ X tb hlk hM hPr
  obtain ⟨h_cm, h_co⟩ := hPr
  have hb0 := hO.b0
  have hbw := hO.bw
  refine v_aload_n X dX9_areConnectedBySearch_0 1 rfl 0 rfl ?_
  refine v_iload_n X dX9_areConnectedBySearch_1 2 rfl 1 rfl ?_
  refine v_rdV X hM.C (PW.app h_cm.1 h_co.1) (c_X9_needWitness l E x co hs er fa ss w hO gw k0) kvX9_needWitness kiX9_needWitness kl_X9_141 rfl rfl (As := [.int (zI w)]) rfl rfl rfl dX9_areConnectedBySearch_2 5 rfl ?_
  show V p l e (rmL 7 1 6) s m args below meth cd Q 3 s.heap [] 0 0 5 [(0, .ref x), (1, .int (zI w)), (2, .int (zI y))] []
  refine v_aload_n X dX9_areConnectedBySearch_5 6 rfl 0 rfl ?_
  refine v_iload_n X dX9_areConnectedBySearch_6 7 rfl 2 rfl ?_
  subst hQ; exact v_txV X tb hlk hM (h_cm.1) (x_X9_needWitness_0 l hl E x co hs er fa ss y hO gy nk) kvX9_needWitness kiX9_needWitness kl_X9_141 (q0 := 0) rfl rfl (As := [.int (zI y)]) rfl rfl rfl rfl dX9_areConnectedBySearch_7 (fun q hq => hq.elim) ⟨h_cm, h_co⟩ (fun H1 hF hpo => trivial)
set_option maxHeartbeats 4000000 in
set_option maxRecDepth 20000 in
theorem c_X9_doMarginsAgree (l : Launch) (E : Nat → Nat → Nat) (x : Nat) (co : Nat → Int → Int) (hs : Int) (er : Int) (fa : Int) (ss : Int) (hO : OkC co) (hma : ∀ k : Int, 0 ≤ k → k < 16 → mgC co k = mlC co k) : Rd l yX9_doMarginsAgree cX9_doMarginsAgree 2 (some .boolean) 4 E [.ref x] ([(x, .inr (11, [.ref (x + 1), .ref (x + 29), .ref (x + 57), .ref (x + 85), .ref (x + 311), .ref (x + 314), .ref (x + 319), .ref (x + 332), .int (zI hs), .int (zI er), .int (zI fa), .int (zI ss)]))] ++ courtW E (x + 1) co) (some (.int (zI (bz (True))))) := by
  refine Rd.start (own := RX9) rfl (by decide +kernel) (Nat.le_of_ble_eq_true rfl) ?_
  intro p e s m below meth cd args Q hQ X hr hlk hC hP
  have h_co := PW.right hP
  have h_cm := (PW.left hP)
  have hb0 := hO.b0
  have hbw := hO.bw
  refine v_iconst X dX9_doMarginsAgree_0 1 rfl ?_
  refine v_istore_n X dX9_doMarginsAgree_1 2 rfl rfl (by decide) (L' := [(1, .int (zI 0)), (0, .ref x)]) rfl ?_
  refine V_L (L' := [(1, .int (zI 0)), (0, .ref x)]) (LC rfl (LC rfl rfl)) ?_
  refine up_loop ((co 0 0).toNat) (P := fun (i : Nat) => V p l e (rmL 4 0 0) s m args below meth cd Q 2 s.heap [] 0 0 2 [(1, .int (zI (i : Int))), (0, .ref x)] []) (fun i hi_i ih_i => ?_)
  refine v_iload_n X dX9_doMarginsAgree_2 3 rfl 0 rfl ?_
  refine v_aload_n X dX9_doMarginsAgree_3 4 rfl 1 rfl ?_
  refine v_getf X hC h_cm inX9 0 rfl rfl 0 (by decide) kf_X9_10 (fun _ h => h) rfl dX9_doMarginsAgree_4 7 rfl ?_
  refine v_getfN X hC h_co inX0 0 rfl rfl 0 (by decide) kfn_X9_75 (fun _ h => h) rfl dX9_doMarginsAgree_7 10 rfl ?_
  show V p l e (rmL 4 0 0) s m args below meth cd Q 2 s.heap [] 0 0 10 [(1, .int (zI (i : Int))), (0, .ref x)] [.int (zI (co 0 0)), .int (zI (i : Int))]
  have hb_2 := hO.b0
  refine v_icmp_ge X (by omega) (by omega) dX9_doMarginsAgree_10 13 40 rfl (by decide) (fun c_1 => ?_) (fun c_1 => ?_)
  · skip
    refine v_iconst X dX9_doMarginsAgree_40 41 rfl ?_
    subst hQ; exact v_zret0 X hr hlk dX9_doMarginsAgree_41 (bz_t (by trivial))
  · skip
    refine v_aload_n X dX9_doMarginsAgree_13 14 rfl 1 rfl ?_
    refine v_getf X hC h_cm inX9 0 rfl rfl 0 (by decide) kf_X9_10 (fun _ h => h) rfl dX9_doMarginsAgree_14 17 rfl ?_
    refine v_iload_n X dX9_doMarginsAgree_17 18 rfl 0 rfl ?_
    refine v_rdS X hC h_co (c_X8_marginByTestimony l E (x + 1) co (i : Int) hO (by omega) (by omega)) kvX8_marginByTestimony ksX8_marginByTestimony kl_X9_221 (As := [.ref (x + 1), .int (zI (i : Int))]) rfl rfl rfl dX9_doMarginsAgree_18 21 rfl ?_
    show V p l e (rmL 4 0 0) s m args below meth cd Q 2 s.heap [] 0 0 21 [(1, .int (zI (i : Int))), (0, .ref x)] [.int (zI (mgC co (i : Int)))]
    have hf_3 := mgC_b hO (i : Int)
    refine v_aload_n X dX9_doMarginsAgree_21 22 rfl 1 rfl ?_
    refine v_getf X hC h_cm inX9 0 rfl rfl 0 (by decide) kf_X9_10 (fun _ h => h) rfl dX9_doMarginsAgree_22 25 rfl ?_
    refine v_iload_n X dX9_doMarginsAgree_25 26 rfl 0 rfl ?_
    refine v_rdS X hC h_co (c_X8_marginByLevel l E (x + 1) co (i : Int) hO (by omega) (by omega)) kvX8_marginByLevel ksX8_marginByLevel kl_X9_224 (As := [.ref (x + 1), .int (zI (i : Int))]) rfl rfl rfl dX9_doMarginsAgree_26 29 rfl ?_
    show V p l e (rmL 4 0 0) s m args below meth cd Q 2 s.heap [] 0 0 29 [(1, .int (zI (i : Int))), (0, .ref x)] [.int (zI (mlC co (i : Int))), .int (zI (mgC co (i : Int)))]
    have hf_4 := mlC_b hO (i : Int)
    have hmk := hma (i : Int) (by omega) (by omega)
    refine v_icmp_eq X (by omega) (by omega) dX9_doMarginsAgree_29 32 34 rfl (by decide) (fun c_5 => ?_) (fun c_5 => ?_)
    · skip
      refine v_iinc X dX9_doMarginsAgree_34 37 rfl 0 rfl (by decide) (L' := [(1, .int (zI ((i : Int) + 1))), (0, .ref x)]) rfl ?_
      refine v_goto X dX9_doMarginsAgree_37 2 (by decide) ?_
      exact V_L (L' := [(1, .int (zI ((i + 1 : Nat) : Int))), (0, .ref x)]) (LC (vz (by omega)) (LC rfl rfl)) (ih_i (by omega))
    · skip
      exfalso; omega
set_option maxHeartbeats 4000000 in
set_option maxRecDepth 20000 in
theorem c_X9_doSentencesAgree (l : Launch) (E : Nat → Nat → Nat) (x : Nat) (co : Nat → Int → Int) (hs : Int) (er : Int) (fa : Int) (ss : Int) (hO : OkC co) (hse : ∀ d : Int, 0 ≤ d → d < 6 → co 12 d = sumZ (fun j => if co 1 j = d ∧ ¬ co 4 j = 0 then co 2 j + 1 else 0) (co 0 0).toNat) : Rd l yX9_doSentencesAgree cX9_doSentencesAgree 2 (some .boolean) 3 E [.ref x] ([(x, .inr (11, [.ref (x + 1), .ref (x + 29), .ref (x + 57), .ref (x + 85), .ref (x + 311), .ref (x + 314), .ref (x + 319), .ref (x + 332), .int (zI hs), .int (zI er), .int (zI fa), .int (zI ss)]))] ++ courtW E (x + 1) co) (some (.int (zI (bz (True))))) := by
  refine Rd.start (own := RX9) rfl (by decide +kernel) (Nat.le_of_ble_eq_true rfl) ?_
  intro p e s m below meth cd args Q hQ X hr hlk hC hP
  have h_co := PW.right hP
  have h_cm := (PW.left hP)
  have hb0 := hO.b0
  have hbw := hO.bw
  refine v_iconst X dX9_doSentencesAgree_0 1 rfl ?_
  refine v_istore_n X dX9_doSentencesAgree_1 2 rfl rfl (by decide) (L' := [(1, .int (zI 0)), (0, .ref x)]) rfl ?_
  refine V_L (L' := [(1, .int (zI 0)), (0, .ref x)]) (LC rfl (LC rfl rfl)) ?_
  refine up_loop 6 (P := fun (i : Nat) => V p l e (rmL 3 0 0) s m args below meth cd Q 2 s.heap [] 0 0 2 [(1, .int (zI (i : Int))), (0, .ref x)] []) (fun i hi_i ih_i => ?_)
  refine v_iload_n X dX9_doSentencesAgree_2 3 rfl 0 rfl ?_
  refine v_bipush X dX9_doSentencesAgree_3 5 rfl rfl ?_
  refine v_icmp_ge X (by omega) (by omega) dX9_doSentencesAgree_5 8 38 rfl (by decide) (fun c_1 => ?_) (fun c_1 => ?_)
  · skip
    refine v_iconst X dX9_doSentencesAgree_38 39 rfl ?_
    subst hQ; exact v_zret0 X hr hlk dX9_doSentencesAgree_39 (bz_t (by trivial))
  · skip
    refine v_aload_n X dX9_doSentencesAgree_8 9 rfl 1 rfl ?_
    refine v_getf X hC h_cm inX9 0 rfl rfl 0 (by decide) kf_X9_10 (fun _ h => h) rfl dX9_doSentencesAgree_9 12 rfl ?_
    refine v_getfN X hC h_co inX0 0 rfl rfl 15 (by decide) kfn_X9_235 (fun _ h => h) rfl dX9_doSentencesAgree_12 15 rfl ?_
    refine v_iload_n X dX9_doSentencesAgree_15 16 rfl 0 rfl ?_
    refine v_rdV X hC (PW.part h_co 23 2 (wc := rowW E (x + 24) 6 (co 12)) rfl) (c_X6_get l E (x + 24) 6 (co 12) (i : Int) (by omega) (by omega) (by omega)) kvX6_get kiX6_get kl_X9_109 rfl rfl (As := [.int (zI (i : Int))]) rfl rfl rfl dX9_doSentencesAgree_16 19 rfl ?_
    show V p l e (rmL 3 0 0) s m args below meth cd Q 2 s.heap [] 0 0 19 [(1, .int (zI (i : Int))), (0, .ref x)] [.int (zI (co 12 (i : Int)))]
    have hb_2 := hO.b12 (i : Int)
    refine v_aload_n X dX9_doSentencesAgree_19 20 rfl 1 rfl ?_
    refine v_getf X hC h_cm inX9 0 rfl rfl 0 (by decide) kf_X9_10 (fun _ h => h) rfl dX9_doSentencesAgree_20 23 rfl ?_
    refine v_iload_n X dX9_doSentencesAgree_23 24 rfl 0 rfl ?_
    refine v_rdV X hC h_co (c_X0_addedSentence l E (x + 1) co (i : Int) hO (by omega) (by omega)) kvX0_addedSentence kiX0_addedSentence kl_X9_238 rfl rfl (As := [.int (zI (i : Int))]) rfl rfl rfl dX9_doSentencesAgree_24 27 rfl ?_
    show V p l e (rmL 3 0 0) s m args below meth cd Q 2 s.heap [] 0 0 27 [(1, .int (zI (i : Int))), (0, .ref x)] [.int (zI (sumZ (fun j => if co 1 j = (i : Int) ∧ ¬ co 4 j = 0 then co 2 j + 1 else 0) (co 0 0).toNat)), .int (zI (co 12 (i : Int)))]
    have hb_3 := hO.b0
    have hsk := hse (i : Int) (by omega) (by omega)
    refine v_icmp_eq X (by omega) (by omega) dX9_doSentencesAgree_27 30 32 rfl (by decide) (fun c_4 => ?_) (fun c_4 => ?_)
    · skip
      refine v_iinc X dX9_doSentencesAgree_32 35 rfl 0 rfl (by decide) (L' := [(1, .int (zI ((i : Int) + 1))), (0, .ref x)]) rfl ?_
      refine v_goto X dX9_doSentencesAgree_35 2 (by decide) ?_
      exact V_L (L' := [(1, .int (zI ((i + 1 : Nat) : Int))), (0, .ref x)]) (LC (vz (by omega)) (LC rfl rfl)) (ih_i (by omega))
    · skip
      exfalso; omega
set_option maxHeartbeats 4000000 in
set_option maxRecDepth 20000 in
theorem c_X9_doConnectionsAgree (l : Launch) (E : Nat → Nat → Nat) (x : Nat) (co : Nat → Int → Int) (hs : Int) (er : Int) (fa : Int) (ss : Int) (se : Nat → Int → Int) (hO : OkC co) (hca : ∀ w : Int, 0 ≤ w → w < co 0 1 → ∀ y : Int, 0 ≤ y → y < co 0 1 → ∀ (se : Nat → Int → Int) (h : Nat), h ≤ 8 → (8 ≤ h ∨ stC co se w h 0 2 ≤ (h : Int)) → (∀ j : Nat, j < h → (j : Int) < stC co se w j 0 2) → (¬ stC co se w h 2 y = 0 ↔ rtF (co 13) 8 w = rtF (co 13) 8 y)) (hd_cm_se : x + 1 ≤ x + 314 ∨ x + 314 + 5 ≤ x) (hd_co_se : x + 1 + 28 ≤ x + 314 ∨ x + 314 + 5 ≤ x + 1) : Mu l yX9_doConnectionsAgree cX9_doConnectionsAgree 3 (some .boolean) 5 0 0 E [(x + 314, 5)] [.ref x] (fun H => PR E x [(x, .inr (11, [.ref (x + 1), .ref (x + 29), .ref (x + 57), .ref (x + 85), .ref (x + 311), .ref (x + 314), .ref (x + 319), .ref (x + 332), .int (zI hs), .int (zI er), .int (zI fa), .int (zI ss)]))] H ∧ PR E (x + 1) (courtW E (x + 1) co) H ∧ PR E (x + 314) (searchW E (x + 314) se) H) (fun rv H => ∃ sq : Nat → Int → Int, rv = some (.int (zI 1)) ∧ PR E (x + 314) (searchW E (x + 314) sq) H) := by
  refine Mu.start (own := RX9) rfl (by decide +kernel) (Nat.le_of_ble_eq_true rfl) ?_
  intro p e s m below meth cd args Q hQ X hr hlk hnm hM hPr
  obtain ⟨h_cm, h_co, h_se⟩ := hPr
  have hb0 := hO.b0
  have hbw := hO.bw
  refine v_iconst X dX9_doConnectionsAgree_0 1 rfl ?_
  refine v_istore_n X dX9_doConnectionsAgree_1 2 rfl rfl (by decide) (L' := [(1, .int (zI 0)), (0, .ref x)]) rfl ?_
  refine V_L (L' := [(1, .int (zI 0)), (0, .ref x)]) (LC rfl (LC rfl rfl)) ?_
  refine up_loop ((co 0 1).toNat) (P := fun (i : Nat) => ∀ (sv : Nat → Int → Int), ∀ (H : Heap) (lo : List Loc), MS E [(x + 314, 5)] s H lo → PR E x [(x, .inr (11, [.ref (x + 1), .ref (x + 29), .ref (x + 57), .ref (x + 85), .ref (x + 311), .ref (x + 314), .ref (x + 319), .ref (x + 332), .int (zI hs), .int (zI er), .int (zI fa), .int (zI ss)]))] H → PR E (x + 1) (courtW E (x + 1) co) H → PR E (x + 314) (searchW E (x + 314) sv) H → V p l e (rmL 5 0 0) s m args below meth cd Q 3 H lo 0 0 2 [(1, .int (zI (i : Int))), (0, .ref x)] []) (fun i hi_i ih_i sv H1 lo1 hM h_cm h_co h_se => ?_) se _ _ hM h_cm h_co h_se
  refine v_iload_n X dX9_doConnectionsAgree_2 3 rfl 0 rfl ?_
  refine v_aload_n X dX9_doConnectionsAgree_3 4 rfl 1 rfl ?_
  refine v_getf X hM.C h_cm.1 inX9 0 rfl rfl 0 (by decide) kf_X9_10 (fun _ h => h) rfl dX9_doConnectionsAgree_4 7 rfl ?_
  refine v_getfN X hM.C h_co.1 inX0 0 rfl rfl 1 (by decide) kfn_X9_160 (fun _ h => h) rfl dX9_doConnectionsAgree_7 10 rfl ?_
  show V p l e (rmL 5 0 0) s m args below meth cd Q 3 H1 lo1 0 0 10 [(1, .int (zI (i : Int))), (0, .ref x)] [.int (zI (co 0 1)), .int (zI (i : Int))]
  have hb_3 := hO.bw
  refine v_icmp_ge X (by omega) (by omega) dX9_doConnectionsAgree_10 13 75 rfl (by decide) (fun c_2 => ?_) (fun c_2 => ?_)
  · skip
    refine v_iconst X dX9_doConnectionsAgree_75 76 rfl ?_
    subst hQ; exact m_zret X hr hlk hM dX9_doConnectionsAgree_76 rfl (by omega) ⟨_, rfl, h_se⟩
  · skip
    refine v_aload_n X dX9_doConnectionsAgree_13 14 rfl 1 rfl ?_
    refine v_getf X hM.C h_cm.1 inX9 0 rfl rfl 5 (by decide) kf_X9_39 (fun _ h => h) rfl dX9_doConnectionsAgree_14 17 rfl ?_
    refine v_iload_n X dX9_doConnectionsAgree_17 18 rfl 0 rfl ?_
    refine v_aload_n X dX9_doConnectionsAgree_18 19 rfl 1 rfl ?_
    refine v_getf X hM.C h_cm.1 inX9 0 rfl rfl 0 (by decide) kf_X9_10 (fun _ h => h) rfl dX9_doConnectionsAgree_19 22 rfl ?_
    refine v_muV X hM (h_se.1) (c_X7_startAt l E (x + 314) sv (x + 1) co (i : Int) hO (by omega) (by omega) (by omega)) kvX7_startAt kiX7_startAt kl_X9_186 (q0 := 0) rfl rfl (As := [.int (zI (i : Int)), .ref (x + 1)]) rfl rfl rfl dX9_doConnectionsAgree_22 25 rfl (k' := 0) (n' := 0) rfl rfl (fsI (fun q q1 q2 => (Or.inl (fsH (by omega) (by omega))))) ⟨h_se, h_co⟩ (fun rv H4 lo4 hM hF hpo => ?_)
    obtain ⟨h_5, rfl, hp_f_6, hp_f_7, hp_f_8, hw_0⟩ := hpo
    have h_se : PR E (x + 314) (searchW E (x + 314) (stC co sv (i : Int) h_5)) H4 := hw_0
    replace h_cm := h_cm.kept hF 1 rfl (fsd (by omega))
    replace h_co := h_co.kept hF 28 rfl (fsd (by omega))
    show V p l e (rmL 5 0 0) s m args below meth cd Q 3 H4 lo4 0 0 25 [(1, .int (zI (i : Int))), (0, .ref x)] []
    refine v_iconst X dX9_doConnectionsAgree_25 26 rfl ?_
    refine v_istore_n X dX9_doConnectionsAgree_26 27 rfl rfl (by decide) (L' := [(2, .int (zI 0)), (1, .int (zI (i : Int))), (0, .ref x)]) rfl ?_
    refine v_locals [0, 2, 1] (L' := [(2, .int (zI 0)), (0, .ref x), (1, .int (zI (i : Int)))]) rfl ?_
    refine V_L (L' := [(2, .int (zI 0)), (0, .ref x), (1, .int (zI (i : Int)))]) (LC rfl (LC rfl (LC rfl rfl))) ?_
    refine up_loop ((co 0 1).toNat) (P := fun (j : Nat) => ∀ (H : Heap) (lo : List Loc), MS E [(x + 314, 5)] s H lo → PR E x [(x, .inr (11, [.ref (x + 1), .ref (x + 29), .ref (x + 57), .ref (x + 85), .ref (x + 311), .ref (x + 314), .ref (x + 319), .ref (x + 332), .int (zI hs), .int (zI er), .int (zI fa), .int (zI ss)]))] H → PR E (x + 1) (courtW E (x + 1) co) H → PR E (x + 314) (searchW E (x + 314) (stC co sv (i : Int) h_5)) H → V p l e (rmL 5 0 0) s m args below meth cd Q 3 H lo 0 0 27 [(2, .int (zI (j : Int))), (0, .ref x), (1, .int (zI (i : Int)))] []) (fun j hi_j ih_j H9 lo9 hM h_cm h_co h_se => ?_) _ _ hM h_cm h_co h_se
    refine v_iload_n X dX9_doConnectionsAgree_27 28 rfl 0 rfl ?_
    refine v_aload_n X dX9_doConnectionsAgree_28 29 rfl 1 rfl ?_
    refine v_getf X hM.C h_cm.1 inX9 0 rfl rfl 0 (by decide) kf_X9_10 (fun _ h => h) rfl dX9_doConnectionsAgree_29 32 rfl ?_
    refine v_getfN X hM.C h_co.1 inX0 0 rfl rfl 1 (by decide) kfn_X9_160 (fun _ h => h) rfl dX9_doConnectionsAgree_32 35 rfl ?_
    show V p l e (rmL 5 0 0) s m args below meth cd Q 3 H9 lo9 0 0 35 [(2, .int (zI (j : Int))), (0, .ref x), (1, .int (zI (i : Int)))] [.int (zI (co 0 1)), .int (zI (j : Int))]
    refine v_icmp_ge X (by omega) (by omega) dX9_doConnectionsAgree_35 38 69 rfl (by decide) (fun c_10 => ?_) (fun c_10 => ?_)
    · skip
      refine v_iinc X dX9_doConnectionsAgree_69 72 rfl 2 rfl (by decide) (L' := [(1, .int (zI ((i : Int) + 1))), (2, .int (zI (j : Int))), (0, .ref x)]) rfl ?_
      refine v_goto X dX9_doConnectionsAgree_72 2 (by decide) ?_
      refine v_locals [0, 2] (L' := [(1, .int (zI ((i : Int) + 1))), (0, .ref x)]) rfl ?_
      exact V_L (L' := [(1, .int (zI ((i + 1 : Nat) : Int))), (0, .ref x)]) (LC (vz (by omega)) (LC rfl rfl)) (ih_i (by omega) (stC co sv (i : Int) h_5) _ _ hM h_cm h_co h_se)
    · skip
      refine v_aload_n X dX9_doConnectionsAgree_38 39 rfl 1 rfl ?_
      refine v_getf X hM.C h_cm.1 inX9 0 rfl rfl 0 (by decide) kf_X9_10 (fun _ h => h) rfl dX9_doConnectionsAgree_39 42 rfl ?_
      refine v_getfN X hM.C h_co.1 inX0 0 rfl rfl 16 (by decide) kfn_X9_177 (fun _ h => h) rfl dX9_doConnectionsAgree_42 45 rfl ?_
      refine v_iload_n X dX9_doConnectionsAgree_45 46 rfl 2 rfl ?_
      refine v_iload_n X dX9_doConnectionsAgree_46 47 rfl 0 rfl ?_
      refine v_rdV X hM.C (PW.part h_co.1 25 3 (wc := groupsW E (x + 26) (co 13)) rfl) (c_X3_areUnited l E (x + 26) (co 13) (i : Int) (j : Int) hO.b13 (by omega) (by omega) (by omega) (by omega)) kvX3_areUnited kiX3_areUnited kl_X9_181 rfl rfl (As := [.int (zI (i : Int)), .int (zI (j : Int))]) rfl rfl rfl dX9_doConnectionsAgree_47 50 rfl ?_
      show V p l e (rmL 5 0 0) s m args below meth cd Q 3 H9 lo9 0 0 50 [(2, .int (zI (j : Int))), (0, .ref x), (1, .int (zI (i : Int)))] [.int (zI (bz (rtF (co 13) 8 (i : Int) = rtF (co 13) 8 (j : Int))))]
      refine v_aload_n X dX9_doConnectionsAgree_50 51 rfl 1 rfl ?_
      refine v_getf X hM.C h_cm.1 inX9 0 rfl rfl 5 (by decide) kf_X9_39 (fun _ h => h) rfl dX9_doConnectionsAgree_51 54 rfl ?_
      refine v_iload_n X dX9_doConnectionsAgree_54 55 rfl 0 rfl ?_
      refine v_rdV X hM.C h_se.1 (c_X7_hasReached l E (x + 314) (stC co sv (i : Int) h_5) (j : Int) (stC_SI hO _ (by omega) (by omega) _) (by omega) (by omega)) kvX7_hasReached kiX7_hasReached kl_X9_190 rfl rfl (As := [.int (zI (j : Int))]) rfl rfl rfl dX9_doConnectionsAgree_55 58 rfl ?_
      show V p l e (rmL 5 0 0) s m args below meth cd Q 3 H9 lo9 0 0 58 [(2, .int (zI (j : Int))), (0, .ref x), (1, .int (zI (i : Int)))] [.int (zI (bz (¬ ((stC co sv (i : Int) h_5) 2) (j : Int) = 0))), .int (zI (bz (rtF (co 13) 8 (i : Int) = rtF (co 13) 8 (j : Int))))]
      refine v_icmp_eq X (by have := bz_rg (φ := rtF (co 13) 8 (i : Int) = rtF (co 13) 8 (j : Int)); omega) (by have := bz_rg (φ := ¬ ((stC co sv (i : Int) h_5) 2) (j : Int) = 0); omega) dX9_doConnectionsAgree_58 61 63 rfl (by decide) (fun c_11 => ?_) (fun c_11 => ?_)
      · skip
        refine v_iinc X dX9_doConnectionsAgree_63 66 rfl 0 rfl (by decide) (L' := [(2, .int (zI ((j : Int) + 1))), (0, .ref x), (1, .int (zI (i : Int)))]) rfl ?_
        refine v_goto X dX9_doConnectionsAgree_66 27 (by decide) ?_
        exact V_L (L' := [(2, .int (zI ((j + 1 : Nat) : Int))), (0, .ref x), (1, .int (zI (i : Int)))]) (LC (vz (by omega)) (LC rfl (LC rfl rfl))) (ih_j (by omega) _ _ hM h_cm h_co h_se)
      · skip
        exfalso; exact absurd (bz_iff (hca (i : Int) (by omega) (by omega) (j : Int) (by omega) (by omega) sv h_5 hp_f_6 hp_f_7 hp_f_8).symm) c_11
set_option maxHeartbeats 4000000 in
set_option maxRecDepth 20000 in
theorem c_X9_doesDocketAgree (l : Launch) (E : Nat → Nat → Nat) (x : Nat) (co : Nat → Int → Int) (hs : Int) (er : Int) (fa : Int) (ss : Int) (dk : Nat → Int → Int) (hO : OkC co) (hda : ∀ g : Int → Int, ∀ k : Int, 0 ≤ k → k < co 0 0 → co 3 k = 0 → sumZ (fun j => bz (co 3 j = 0 ∧ cbC co j k)) (co 0 0).toNat < (dkM co (co 0 0).toNat : Int) ∧ dkG co g (co 0 0).toNat (sumZ (fun j => bz (co 3 j = 0 ∧ cbC co j k)) (co 0 0).toNat) = k) (hd_cm_dk : x + 1 ≤ x + 311 ∨ x + 311 + 3 ≤ x) (hd_co_dk : x + 1 + 28 ≤ x + 311 ∨ x + 311 + 3 ≤ x + 1) : Mu l yX9_doesDocketAgree cX9_doesDocketAgree 2 (some .boolean) 4 0 0 E [(x + 311, 3)] [.ref x] (fun H => PR E x [(x, .inr (11, [.ref (x + 1), .ref (x + 29), .ref (x + 57), .ref (x + 85), .ref (x + 311), .ref (x + 314), .ref (x + 319), .ref (x + 332), .int (zI hs), .int (zI er), .int (zI fa), .int (zI ss)]))] H ∧ PR E (x + 1) (courtW E (x + 1) co) H ∧ PR E (x + 311) (docketW E (x + 311) dk) H) (fun rv H => rv = some (.int (zI 1)) ∧ PR E (x + 311) (docketW E (x + 311) (updC (updC dk 0 (updZ (dk 0) 1 (dkM co (co 0 0).toNat : Int))) 1 (dkG co (dk 1) (co 0 0).toNat))) H) := by
  refine Mu.start (own := RX9) rfl (by decide +kernel) (Nat.le_of_ble_eq_true rfl) ?_
  intro p e s m below meth cd args Q hQ X hr hlk hnm hM hPr
  obtain ⟨h_cm, h_co, h_dk⟩ := hPr
  have hb0 := hO.b0
  have hbw := hO.bw
  have hdm := dkM_le co (co 0 0).toNat
  have hgo : ∀ p : Int, 0 ≤ p → p < (dkM co (co 0 0).toNat : Int) → 0 ≤ dkG co (dk 1) (co 0 0).toNat p ∧ dkG co (dk 1) (co 0 0).toNat p < 16 := fun p a b => by have h := dkG_b co (dk 1) (co 0 0).toNat p a b; exact ⟨h.1, Int.lt_of_lt_of_le h.2 (by omega)⟩
  refine v_aload_n X dX9_doesDocketAgree_0 1 rfl 0 rfl ?_
  refine v_getf X hM.C h_cm.1 inX9 0 rfl rfl 4 (by decide) kf_X9_32 (fun _ h => h) rfl dX9_doesDocketAgree_1 4 rfl ?_
  refine v_aload_n X dX9_doesDocketAgree_4 5 rfl 0 rfl ?_
  refine v_getf X hM.C h_cm.1 inX9 0 rfl rfl 0 (by decide) kf_X9_10 (fun _ h => h) rfl dX9_doesDocketAgree_5 8 rfl ?_
  refine v_muV X hM (h_dk.1) (c_X1_fill l E (x + 311) dk (x + 1) co hO (by omega)) kvX1_fill kiX1_fill kl_X9_207 (q0 := 0) rfl rfl (As := [.ref (x + 1)]) rfl rfl rfl dX9_doesDocketAgree_8 11 rfl (k' := 0) (n' := 0) rfl rfl (fsI (fun q q1 q2 => (Or.inl (fsH (by omega) (by omega))))) ⟨h_dk, h_co⟩ (fun rv H1 lo1 hM hF hpo => ?_)
  obtain ⟨rfl, hw_0⟩ := hpo
  have h_dk : PR E (x + 311) (docketW E (x + 311) (updC (updC dk 0 (updZ (dk 0) 1 (dkM co (co 0 0).toNat : Int))) 1 (dkG co ((dk 1)) (co 0 0).toNat))) H1 := hw_0
  replace h_cm := h_cm.kept hF 1 rfl (fsd (by omega))
  replace h_co := h_co.kept hF 28 rfl (fsd (by omega))
  show V p l e (rmL 4 0 0) s m args below meth cd Q 2 H1 lo1 0 0 11 [(0, .ref x)] []
  refine v_iconst X dX9_doesDocketAgree_11 12 rfl ?_
  refine v_istore_n X dX9_doesDocketAgree_12 13 rfl rfl (by decide) (L' := [(1, .int (zI 0)), (0, .ref x)]) rfl ?_
  refine V_L (L' := [(1, .int (zI 0)), (0, .ref x)]) (LC rfl (LC rfl rfl)) ?_
  refine up_loop ((co 0 0).toNat) (P := fun (i : Nat) => ∀ (H : Heap) (lo : List Loc), MS E [(x + 311, 3)] s H lo → PR E x [(x, .inr (11, [.ref (x + 1), .ref (x + 29), .ref (x + 57), .ref (x + 85), .ref (x + 311), .ref (x + 314), .ref (x + 319), .ref (x + 332), .int (zI hs), .int (zI er), .int (zI fa), .int (zI ss)]))] H → PR E (x + 1) (courtW E (x + 1) co) H → PR E (x + 311) (docketW E (x + 311) (updC (updC dk 0 (updZ (dk 0) 1 (dkM co (co 0 0).toNat : Int))) 1 (dkG co ((dk 1)) (co 0 0).toNat))) H → V p l e (rmL 4 0 0) s m args below meth cd Q 2 H lo 0 0 13 [(1, .int (zI (i : Int))), (0, .ref x)] []) (fun i hi_i ih_i H2 lo2 hM h_cm h_co h_dk => ?_) _ _ hM h_cm h_co h_dk
  refine v_iload_n X dX9_doesDocketAgree_13 14 rfl 0 rfl ?_
  refine v_aload_n X dX9_doesDocketAgree_14 15 rfl 1 rfl ?_
  refine v_getf X hM.C h_cm.1 inX9 0 rfl rfl 0 (by decide) kf_X9_10 (fun _ h => h) rfl dX9_doesDocketAgree_15 18 rfl ?_
  refine v_getfN X hM.C h_co.1 inX0 0 rfl rfl 0 (by decide) kfn_X9_75 (fun _ h => h) rfl dX9_doesDocketAgree_18 21 rfl ?_
  show V p l e (rmL 4 0 0) s m args below meth cd Q 2 H2 lo2 0 0 21 [(1, .int (zI (i : Int))), (0, .ref x)] [.int (zI (co 0 0)), .int (zI (i : Int))]
  have hb_4 := hO.b0
  refine v_icmp_ge X (by omega) (by omega) dX9_doesDocketAgree_21 24 63 rfl (by decide) (fun c_3 => ?_) (fun c_3 => ?_)
  · skip
    refine v_iconst X dX9_doesDocketAgree_63 64 rfl ?_
    subst hQ; exact m_zret X hr hlk hM dX9_doesDocketAgree_64 rfl (by omega) ⟨rfl, h_dk⟩
  · skip
    refine v_aload_n X dX9_doesDocketAgree_24 25 rfl 1 rfl ?_
    refine v_getf X hM.C h_cm.1 inX9 0 rfl rfl 0 (by decide) kf_X9_10 (fun _ h => h) rfl dX9_doesDocketAgree_25 28 rfl ?_
    refine v_iconst X dX9_doesDocketAgree_28 29 rfl ?_
    refine v_iload_n X dX9_doesDocketAgree_29 30 rfl 0 rfl ?_
    refine v_rdV X hM.C h_co.1 (c_X0_isIn l E (x + 1) co 0 (i : Int) hO (by omega) (by omega) (by omega)) kvX0_isIn kiX0_isIn kl_X9_118 rfl rfl (As := [.int (zI 0), .int (zI (i : Int))]) rfl rfl rfl dX9_doesDocketAgree_30 33 rfl ?_
    show V p l e (rmL 4 0 0) s m args below meth cd Q 2 H2 lo2 0 0 33 [(1, .int (zI (i : Int))), (0, .ref x)] [.int (zI (bz (co 3 (i : Int) = 0)))]
    refine v_bif_eq X dX9_doesDocketAgree_33 36 57 rfl (by decide) (fun c_5 => ?_) (fun c_5 => ?_)
    · skip
      refine v_iinc X dX9_doesDocketAgree_57 60 rfl 0 rfl (by decide) (L' := [(1, .int (zI ((i : Int) + 1))), (0, .ref x)]) rfl ?_
      refine v_goto X dX9_doesDocketAgree_60 13 (by decide) ?_
      exact V_L (L' := [(1, .int (zI ((i + 1 : Nat) : Int))), (0, .ref x)]) (LC (vz (by omega)) (LC rfl rfl)) (ih_i (by omega) _ _ hM h_cm h_co h_dk)
    · skip
      refine v_aload_n X dX9_doesDocketAgree_36 37 rfl 1 rfl ?_
      refine v_getf X hM.C h_cm.1 inX9 0 rfl rfl 4 (by decide) kf_X9_32 (fun _ h => h) rfl dX9_doesDocketAgree_37 40 rfl ?_
      refine v_aload_n X dX9_doesDocketAgree_40 41 rfl 1 rfl ?_
      refine v_getf X hM.C h_cm.1 inX9 0 rfl rfl 0 (by decide) kf_X9_10 (fun _ h => h) rfl dX9_doesDocketAgree_41 44 rfl ?_
      refine v_iload_n X dX9_doesDocketAgree_44 45 rfl 0 rfl ?_
      refine v_rdV X hM.C h_co.1 (c_X0_openCasesBefore l E (x + 1) co (i : Int) hO (by omega) (by omega)) kvX0_openCasesBefore kiX0_openCasesBefore kl_X9_254 rfl rfl (As := [.int (zI (i : Int))]) rfl rfl rfl dX9_doesDocketAgree_45 48 rfl ?_
      show V p l e (rmL 4 0 0) s m args below meth cd Q 2 H2 lo2 0 0 48 [(1, .int (zI (i : Int))), (0, .ref x)] [.int (zI (sumZ (fun j => bz (co 3 j = 0 ∧ cbC co j (i : Int))) (co 0 0).toNat)), .ref (x + 311)]
      have hf_6 := cnt_b (fun j => co 3 j = 0 ∧ cbC co j (i : Int)) (co 0 0).toNat
      have hdk := hda (dk 1) (i : Int) (by omega) (by omega) (by omega)
      refine v_iload_n X dX9_doesDocketAgree_48 49 rfl 0 rfl ?_
      refine v_rdV X hM.C h_dk.1 (c_X1_holdsAt l E (x + 311) (updC (updC dk 0 (updZ (dk 0) 1 (dkM co (co 0 0).toNat : Int))) 1 (dkG co ((dk 1)) (co 0 0).toNat)) (sumZ (fun j => bz (co 3 j = 0 ∧ cbC co j (i : Int))) (co 0 0).toNat) (i : Int) (dkM co (co 0 0).toNat) rfl (by omega) (by omega) (by omega) (by omega) hgo) kvX1_holdsAt kiX1_holdsAt kl_X9_431 rfl rfl (As := [.int (zI (sumZ (fun j => bz (co 3 j = 0 ∧ cbC co j (i : Int))) (co 0 0).toNat)), .int (zI (i : Int))]) rfl rfl rfl dX9_doesDocketAgree_49 52 rfl ?_
      show V p l e (rmL 4 0 0) s m args below meth cd Q 2 H2 lo2 0 0 52 [(1, .int (zI (i : Int))), (0, .ref x)] [.int (zI (bz ((sumZ (fun j => bz (co 3 j = 0 ∧ cbC co j (i : Int))) (co 0 0).toNat) < ((dkM co (co 0 0).toNat) : Int) ∧ (dkG co ((dk 1)) (co 0 0).toNat) (sumZ (fun j => bz (co 3 j = 0 ∧ cbC co j (i : Int))) (co 0 0).toNat) = (i : Int))))]
      refine v_bif_ne X dX9_doesDocketAgree_52 55 57 rfl (by decide) (fun c_7 => ?_) (fun c_7 => ?_)
      · skip
        refine v_iinc X dX9_doesDocketAgree_57 60 rfl 0 rfl (by decide) (L' := [(1, .int (zI ((i : Int) + 1))), (0, .ref x)]) rfl ?_
        refine v_goto X dX9_doesDocketAgree_60 13 (by decide) ?_
        exact V_L (L' := [(1, .int (zI ((i + 1 : Nat) : Int))), (0, .ref x)]) (LC (vz (by omega)) (LC rfl rfl)) (ih_i (by omega) _ _ hM h_cm h_co h_dk)
      · skip
        exfalso; omega
set_option maxHeartbeats 4000000 in
set_option maxRecDepth 20000 in
theorem c_X9_isConsistent (l : Launch) (E : Nat → Nat → Nat) (x : Nat) (co : Nat → Int → Int) (hs : Int) (er : Int) (fa : Int) (ss : Int) (se : Nat → Int → Int) (dk : Nat → Int → Int) (hO : OkC co) (hma : ∀ k : Int, 0 ≤ k → k < 16 → mgC co k = mlC co k) (hse : ∀ d : Int, 0 ≤ d → d < 6 → co 12 d = sumZ (fun j => if co 1 j = d ∧ ¬ co 4 j = 0 then co 2 j + 1 else 0) (co 0 0).toNat) (hca : ∀ w : Int, 0 ≤ w → w < co 0 1 → ∀ y : Int, 0 ≤ y → y < co 0 1 → ∀ (se : Nat → Int → Int) (h : Nat), h ≤ 8 → (8 ≤ h ∨ stC co se w h 0 2 ≤ (h : Int)) → (∀ j : Nat, j < h → (j : Int) < stC co se w j 0 2) → (¬ stC co se w h 2 y = 0 ↔ rtF (co 13) 8 w = rtF (co 13) 8 y)) (hda : ∀ g : Int → Int, ∀ k : Int, 0 ≤ k → k < co 0 0 → co 3 k = 0 → sumZ (fun j => bz (co 3 j = 0 ∧ cbC co j k)) (co 0 0).toNat < (dkM co (co 0 0).toNat : Int) ∧ dkG co g (co 0 0).toNat (sumZ (fun j => bz (co 3 j = 0 ∧ cbC co j k)) (co 0 0).toNat) = k) (hd_cm_dk : x + 1 ≤ x + 311 ∨ x + 311 + 3 ≤ x) (hd_cm_se : x + 1 ≤ x + 314 ∨ x + 314 + 5 ≤ x) (hd_co_dk : x + 1 + 28 ≤ x + 311 ∨ x + 311 + 3 ≤ x + 1) (hd_co_se : x + 1 + 28 ≤ x + 314 ∨ x + 314 + 5 ≤ x + 1) (hd_dk_se : x + 311 + 3 ≤ x + 314 ∨ x + 314 + 5 ≤ x + 311) : Mu l yX9_isConsistent cX9_isConsistent 1 (some .boolean) 6 0 0 E [(x + 311, 3), (x + 314, 5)] [.ref x] (fun H => PR E x [(x, .inr (11, [.ref (x + 1), .ref (x + 29), .ref (x + 57), .ref (x + 85), .ref (x + 311), .ref (x + 314), .ref (x + 319), .ref (x + 332), .int (zI hs), .int (zI er), .int (zI fa), .int (zI ss)]))] H ∧ PR E (x + 1) (courtW E (x + 1) co) H ∧ PR E (x + 311) (docketW E (x + 311) dk) H ∧ PR E (x + 314) (searchW E (x + 314) se) H) (fun rv H => ∃ sq : Nat → Int → Int, rv = some (.int (zI 1)) ∧ PR E (x + 311) (docketW E (x + 311) (updC (updC dk 0 (updZ (dk 0) 1 (dkM co (co 0 0).toNat : Int))) 1 (dkG co (dk 1) (co 0 0).toNat))) H ∧ PR E (x + 314) (searchW E (x + 314) sq) H) := by
  refine Mu.start (own := RX9) rfl (by decide +kernel) (Nat.le_of_ble_eq_true rfl) ?_
  intro p e s m below meth cd args Q hQ X hr hlk hnm hM hPr
  obtain ⟨h_cm, h_co, h_dk, h_se⟩ := hPr
  have hb0 := hO.b0
  have hbw := hO.bw
  refine v_aload_n X dX9_isConsistent_0 1 rfl 0 rfl ?_
  refine v_rdV X hM.C (PW.app h_cm.1 h_co.1) (c_X9_doMarginsAgree l E x co hs er fa ss hO hma) kvX9_doMarginsAgree kiX9_doMarginsAgree kl_X9_277 rfl rfl (As := []) rfl rfl rfl dX9_isConsistent_1 4 rfl ?_
  show V p l e (rmL 6 0 0) s m args below meth cd Q 1 s.heap [] 0 0 4 [(0, .ref x)] [.int (zI (bz (True)))]
  refine v_bif_eq X dX9_isConsistent_4 7 32 rfl (by decide) (fun c_1 => ?_) (fun c_1 => ?_)
  · skip
    exfalso; exact absurd trivial (by assumption)
  · skip
    refine v_aload_n X dX9_isConsistent_7 8 rfl 0 rfl ?_
    refine v_rdV X hM.C (PW.app h_cm.1 h_co.1) (c_X9_doSentencesAgree l E x co hs er fa ss hO hse) kvX9_doSentencesAgree kiX9_doSentencesAgree kl_X9_281 rfl rfl (As := []) rfl rfl rfl dX9_isConsistent_8 11 rfl ?_
    show V p l e (rmL 6 0 0) s m args below meth cd Q 1 s.heap [] 0 0 11 [(0, .ref x)] [.int (zI (bz (True)))]
    refine v_bif_eq X dX9_isConsistent_11 14 32 rfl (by decide) (fun c_2 => ?_) (fun c_2 => ?_)
    · skip
      exfalso; exact absurd trivial (by assumption)
    · skip
      refine v_aload_n X dX9_isConsistent_14 15 rfl 0 rfl ?_
      refine v_muV X hM (h_cm.1) (c_X9_doConnectionsAgree l E x co hs er fa ss se hO (by omega) hd_cm_se hd_co_se) kvX9_doConnectionsAgree kiX9_doConnectionsAgree kl_X9_284 (q0 := 0) rfl rfl (As := []) rfl rfl rfl dX9_isConsistent_15 18 rfl (k' := 0) (n' := 0) rfl rfl (fsI (fun q q1 q2 => (Or.inl (fsT (fsH (by omega) (by omega)))))) ⟨h_cm, h_co, h_se⟩ (fun rv H3 lo3 hM hF hpo => ?_)
      obtain ⟨sq_4, rfl, hw_0⟩ := hpo
      have h_se : PR E (x + 314) (searchW E (x + 314) sq_4) H3 := hw_0
      replace h_cm := h_cm.kept hF 1 rfl (fsd (by omega))
      replace h_co := h_co.kept hF 28 rfl (fsd (by omega))
      replace h_dk := h_dk.kept hF 3 rfl (fsd (by omega))
      show V p l e (rmL 6 0 0) s m args below meth cd Q 1 H3 lo3 0 0 18 [(0, .ref x)] [.int (zI 1)]
      refine v_if_eq X (by omega) dX9_isConsistent_18 21 32 rfl (by decide) (fun c_5 => ?_) (fun c_5 => ?_)
      · skip
        exfalso; omega
      · skip
        refine v_aload_n X dX9_isConsistent_21 22 rfl 0 rfl ?_
        refine v_muV X hM (h_cm.1) (c_X9_doesDocketAgree l E x co hs er fa ss dk hO hda hd_cm_dk hd_co_dk) kvX9_doesDocketAgree kiX9_doesDocketAgree kl_X9_287 (q0 := 0) rfl rfl (As := []) rfl rfl rfl dX9_isConsistent_22 25 rfl (k' := 0) (n' := 0) rfl rfl (fsI (fun q q1 q2 => (Or.inl (fsH (by omega) (by omega))))) ⟨h_cm, h_co, h_dk⟩ (fun rv H6 lo6 hM hF hpo => ?_)
        obtain ⟨rfl, hw_0⟩ := hpo
        have h_dk : PR E (x + 311) (docketW E (x + 311) (updC (updC dk 0 (updZ (dk 0) 1 (dkM co (co 0 0).toNat : Int))) 1 (dkG co ((dk 1)) (co 0 0).toNat))) H6 := hw_0
        replace h_cm := h_cm.kept hF 1 rfl (fsd (by omega))
        replace h_co := h_co.kept hF 28 rfl (fsd (by omega))
        replace h_se := h_se.kept hF 5 rfl (fsd (by omega))
        show V p l e (rmL 6 0 0) s m args below meth cd Q 1 H6 lo6 0 0 25 [(0, .ref x)] [.int (zI 1)]
        refine v_if_eq X (by omega) dX9_isConsistent_25 28 32 rfl (by decide) (fun c_7 => ?_) (fun c_7 => ?_)
        · skip
          exfalso; omega
        · skip
          refine v_iconst X dX9_isConsistent_28 29 rfl ?_
          refine v_goto X dX9_isConsistent_29 33 (by decide) ?_
          subst hQ; exact m_zret X hr hlk hM dX9_isConsistent_33 rfl (by omega) ⟨_, rfl, h_dk, h_se⟩
