set_option maxHeartbeats 4000000 in
set_option maxRecDepth 20000 in
theorem c_X9_refuse (l : Launch) (E : Nat → Nat → Nat)  : Rd l yX9_refuse cX9_refuse 1 none 0 E [.ref (E 103 0)] ([]) none := by
  refine Rd.start (own := RX9) rfl (by decide +kernel) (Nat.le_of_ble_eq_true rfl) ?_
  intro p e s m below meth cd args Q hQ X hr hlk hC hP
  refine v_aload_n X dX9_refuse_0 1 rfl 0 rfl ?_
  refine v_flt X (MS0 hC) 1 (by decide) kf_X9_376 dX9_refuse_1 4 rfl ?_
  refine v_acmp_ne X dX9_refuse_4 7 18 rfl (by decide) (fun c_1 => ?_) (fun c_1 => ?_)
  · skip
    refine v_aload_n X dX9_refuse_18 19 rfl 0 rfl ?_
    refine v_flt X (MS0 hC) 2 (by decide) kf_X9_384 dX9_refuse_19 22 rfl ?_
    refine v_acmp_ne X dX9_refuse_22 25 36 rfl (by decide) (fun c_2 => ?_) (fun c_2 => ?_)
    · skip
      refine v_aload_n X dX9_refuse_36 37 rfl 0 rfl ?_
      refine v_flt X (MS0 hC) 3 (by decide) kf_X9_389 dX9_refuse_37 40 rfl ?_
      refine v_acmp_ne X dX9_refuse_40 43 54 rfl (by decide) (fun c_3 => ?_) (fun c_3 => ?_)
      · skip
        refine v_aload_n X dX9_refuse_54 55 rfl 0 rfl ?_
        refine v_flt X (MS0 hC) 4 (by decide) kf_X9_394 dX9_refuse_55 58 rfl ?_
        refine v_acmp_ne X dX9_refuse_58 61 72 rfl (by decide) (fun c_4 => ?_) (fun c_4 => ?_)
        · skip
          subst hQ; exact v_vret0 X hr hlk dX9_refuse_72
        · skip
          exfalso; exact absurd (flt_inj (MS0 hC) (by decide) (by decide) c_4) (by decide)
      · skip
        exfalso; exact absurd (flt_inj (MS0 hC) (by decide) (by decide) c_3) (by decide)
    · skip
      exfalso; exact absurd (flt_inj (MS0 hC) (by decide) (by decide) c_2) (by decide)
  · skip
    exfalso; exact absurd (flt_inj (MS0 hC) (by decide) (by decide) c_1) (by decide)
set_option maxHeartbeats 4000000 in
set_option maxRecDepth 20000 in
theorem x_X9_refuse_1 (l : Launch) (hl : l.stackTraces = false) (E : Nat → Nat → Nat)  : Tx l yX9_refuse cX9_refuse 1 none 6 1 6 E [] [.ref (E 103 1)] (fun H => True) "java/lang/IndexOutOfBoundsException" (fun H => True) := by
  refine Tx.start (own := RX9) rfl (by decide +kernel) (Nat.le_of_ble_eq_true rfl) ?_
  intro p e s m below meth cd args Q hQ X tb hlk hM hPr
  refine v_aload_n X dX9_refuse_0 1 rfl 0 rfl ?_
  refine v_flt X hM 1 (by decide) kf_X9_376 dX9_refuse_1 4 rfl ?_
  refine v_acmp_ne X dX9_refuse_4 7 18 rfl (by decide) (fun c_1 => ?_) (fun c_1 => ?_)
  · skip
    exfalso; exact c_1 rfl
  · skip
    subst hQ; exact v_throwW X hl tb hlk hM xt_IOB xk_IOB 7 rfl dX9_refuse_7 dX9_refuse_10 dX9_refuse_11 dX9_refuse_14 dX9_refuse_17 rfl (fun H1 hF => trivial)
set_option maxHeartbeats 4000000 in
set_option maxRecDepth 20000 in
theorem x_X9_refuse_2 (l : Launch) (hl : l.stackTraces = false) (E : Nat → Nat → Nat)  : Tx l yX9_refuse cX9_refuse 1 none 6 1 6 E [] [.ref (E 103 2)] (fun H => True) "java/lang/IllegalArgumentException" (fun H => True) := by
  refine Tx.start (own := RX9) rfl (by decide +kernel) (Nat.le_of_ble_eq_true rfl) ?_
  intro p e s m below meth cd args Q hQ X tb hlk hM hPr
  refine v_aload_n X dX9_refuse_0 1 rfl 0 rfl ?_
  refine v_flt X hM 1 (by decide) kf_X9_376 dX9_refuse_1 4 rfl ?_
  refine v_acmp_ne X dX9_refuse_4 7 18 rfl (by decide) (fun c_1 => ?_) (fun c_1 => ?_)
  · skip
    refine v_aload_n X dX9_refuse_18 19 rfl 0 rfl ?_
    refine v_flt X hM 2 (by decide) kf_X9_384 dX9_refuse_19 22 rfl ?_
    refine v_acmp_ne X dX9_refuse_22 25 36 rfl (by decide) (fun c_2 => ?_) (fun c_2 => ?_)
    · skip
      exfalso; exact c_2 rfl
    · skip
      subst hQ; exact v_throwW X hl tb hlk hM xt_IAE xk_IAE 8 rfl dX9_refuse_25 dX9_refuse_28 dX9_refuse_29 dX9_refuse_32 dX9_refuse_35 rfl (fun H1 hF => trivial)
  · skip
    exfalso; exact absurd (flt_inj hM (by decide) (by decide) c_1) (by decide)
set_option maxHeartbeats 4000000 in
set_option maxRecDepth 20000 in
theorem x_X9_refuse_3 (l : Launch) (hl : l.stackTraces = false) (E : Nat → Nat → Nat)  : Tx l yX9_refuse cX9_refuse 1 none 6 1 6 E [] [.ref (E 103 3)] (fun H => True) "java/util/NoSuchElementException" (fun H => True) := by
  refine Tx.start (own := RX9) rfl (by decide +kernel) (Nat.le_of_ble_eq_true rfl) ?_
  intro p e s m below meth cd args Q hQ X tb hlk hM hPr
  refine v_aload_n X dX9_refuse_0 1 rfl 0 rfl ?_
  refine v_flt X hM 1 (by decide) kf_X9_376 dX9_refuse_1 4 rfl ?_
  refine v_acmp_ne X dX9_refuse_4 7 18 rfl (by decide) (fun c_1 => ?_) (fun c_1 => ?_)
  · skip
    refine v_aload_n X dX9_refuse_18 19 rfl 0 rfl ?_
    refine v_flt X hM 2 (by decide) kf_X9_384 dX9_refuse_19 22 rfl ?_
    refine v_acmp_ne X dX9_refuse_22 25 36 rfl (by decide) (fun c_2 => ?_) (fun c_2 => ?_)
    · skip
      refine v_aload_n X dX9_refuse_36 37 rfl 0 rfl ?_
      refine v_flt X hM 3 (by decide) kf_X9_389 dX9_refuse_37 40 rfl ?_
      refine v_acmp_ne X dX9_refuse_40 43 54 rfl (by decide) (fun c_3 => ?_) (fun c_3 => ?_)
      · skip
        exfalso; exact c_3 rfl
      · skip
        subst hQ; exact v_throwW X hl tb hlk hM xt_NSE xk_NSE 9 rfl dX9_refuse_43 dX9_refuse_46 dX9_refuse_47 dX9_refuse_50 dX9_refuse_53 rfl (fun H1 hF => trivial)
    · skip
      exfalso; exact absurd (flt_inj hM (by decide) (by decide) c_2) (by decide)
  · skip
    exfalso; exact absurd (flt_inj hM (by decide) (by decide) c_1) (by decide)
set_option maxHeartbeats 4000000 in
set_option maxRecDepth 20000 in
theorem x_X9_refuse_4 (l : Launch) (hl : l.stackTraces = false) (E : Nat → Nat → Nat)  : Tx l yX9_refuse cX9_refuse 1 none 6 1 6 E [] [.ref (E 103 4)] (fun H => True) "java/lang/IllegalStateException" (fun H => True) := by
  refine Tx.start (own := RX9) rfl (by decide +kernel) (Nat.le_of_ble_eq_true rfl) ?_
  intro p e s m below meth cd args Q hQ X tb hlk hM hPr
  refine v_aload_n X dX9_refuse_0 1 rfl 0 rfl ?_
  refine v_flt X hM 1 (by decide) kf_X9_376 dX9_refuse_1 4 rfl ?_
  refine v_acmp_ne X dX9_refuse_4 7 18 rfl (by decide) (fun c_1 => ?_) (fun c_1 => ?_)
  · skip
    refine v_aload_n X dX9_refuse_18 19 rfl 0 rfl ?_
    refine v_flt X hM 2 (by decide) kf_X9_384 dX9_refuse_19 22 rfl ?_
    refine v_acmp_ne X dX9_refuse_22 25 36 rfl (by decide) (fun c_2 => ?_) (fun c_2 => ?_)
    · skip
      refine v_aload_n X dX9_refuse_36 37 rfl 0 rfl ?_
      refine v_flt X hM 3 (by decide) kf_X9_389 dX9_refuse_37 40 rfl ?_
      refine v_acmp_ne X dX9_refuse_40 43 54 rfl (by decide) (fun c_3 => ?_) (fun c_3 => ?_)
      · skip
        refine v_aload_n X dX9_refuse_54 55 rfl 0 rfl ?_
        refine v_flt X hM 4 (by decide) kf_X9_394 dX9_refuse_55 58 rfl ?_
        refine v_acmp_ne X dX9_refuse_58 61 72 rfl (by decide) (fun c_4 => ?_) (fun c_4 => ?_)
        · skip
          exfalso; exact c_4 rfl
        · skip
          subst hQ; exact v_throwW X hl tb hlk hM xt_ISE xk_ISE 10 rfl dX9_refuse_61 dX9_refuse_64 dX9_refuse_65 dX9_refuse_68 dX9_refuse_71 rfl (fun H1 hF => trivial)
      · skip
        exfalso; exact absurd (flt_inj hM (by decide) (by decide) c_3) (by decide)
    · skip
      exfalso; exact absurd (flt_inj hM (by decide) (by decide) c_2) (by decide)
  · skip
    exfalso; exact absurd (flt_inj hM (by decide) (by decide) c_1) (by decide)
set_option maxHeartbeats 4000000 in
set_option maxRecDepth 20000 in
theorem c_X9_change (l : Launch) (E : Nat → Nat → Nat) (x : Nat) (co : Nat → Int → Int) (hs : Int) (er : Int) (fa : Int) (ss : Int) (kd : Int) (a : Int) (y : Int) (f : Int) (z : Int) (hc : Nat → Nat → Int → Int) (nx : Int) (sz : Int) (hO : OkC co) (hkd : 0 ≤ kd ∧ kd ≤ 6) (ga : Rg a) (gy : Rg y) (gz : Rg z) (hb : 0 ≤ f ∧ f ≤ 1) (hf : flC co kd a y z = 0) (n0 : 0 ≤ nx) (n1 : nx < 8) (s0 : 0 ≤ sz) (s1 : sz ≤ 8) (hd_cm_co : x + 1 ≤ x + 1 ∨ x + 1 + 28 ≤ x) (hd_cm_hi : x + 1 ≤ x + 85 ∨ x + 85 + 2 ≤ x) (hd_cm_hf : x + 1 ≤ x + 87 ∨ x + 87 + 224 ≤ x) (hd_co_hi : x + 1 + 28 ≤ x + 85 ∨ x + 85 + 2 ≤ x + 1) (hd_co_hf : x + 1 + 28 ≤ x + 87 ∨ x + 87 + 224 ≤ x + 1) (hd_hi_hf : x + 85 + 2 ≤ x + 87 ∨ x + 87 + 224 ≤ x + 85) : Mu l yX9_change cX9_change 6 (some .int) 9 0 0 E [(x + 1, 28), (x + 85, 2), (x + 87, 224)] [.ref x, .int (zI kd), .int (zI a), .int (zI y), .int (zI f), .int (zI z)] (fun H => PR E x [(x, .inr (11, [.ref (x + 1), .ref (x + 29), .ref (x + 57), .ref (x + 85), .ref (x + 311), .ref (x + 314), .ref (x + 319), .ref (x + 332), .int (zI hs), .int (zI er), .int (zI fa), .int (zI ss)]))] H ∧ PR E (x + 1) (courtW E (x + 1) co) H ∧ PR E (x + 85) [(x + 85, .inr (7, [.ref (x + 86), .int (zI nx), .int (zI sz)])), (x + 86, .inl (E 102 3, 8, .inr (.inr (.inr (.inr (hisA (x + 87) 8))))))] H ∧ HF E (x + 87) 8 hc H) (fun rv H => rv = some (.int (zI (opV co kd a y f z))) ∧ PR E (x + 1) (courtW E (x + 1) (opC co kd a y f z)) H ∧ PR E (x + 85) [(x + 85, .inr (7, [.ref (x + 86), .int (zI (if nx < 7 then nx + 1 else 0)), .int (zI (min (sz + 1) 8))])), (x + 86, .inl (E 102 3, 8, .inr (.inr (.inr (.inr (hisA (x + 87) 8))))))] H ∧ HF E (x + 87) 8 (fun j => if j = nx.toNat then co else hc j) H) := by
  refine Mu.start (own := RX9) rfl (by decide +kernel) (Nat.le_of_ble_eq_true rfl) ?_
  intro p e s m below meth cd args Q hQ X hr hlk hnm hM hPr
  obtain ⟨h_cm, h_co, h_hi, h_hf⟩ := hPr
  have hb0 := hO.b0
  have hbw := hO.bw
  refine v_aload_n X dX9_change_0 1 rfl 0 rfl ?_
  refine v_getf X hM.C h_cm.1 inX9 0 rfl rfl 0 (by decide) kf_X9_10 (fun _ h => h) rfl dX9_change_1 4 rfl ?_
  refine v_iload_n X dX9_change_4 5 rfl 1 rfl ?_
  refine v_iload_n X dX9_change_5 6 rfl 2 rfl ?_
  refine v_iload_n X dX9_change_6 7 rfl 3 rfl ?_
  refine v_iload X dX9_change_7 9 rfl 5 rfl ?_
  refine v_rdV X hM.C h_co.1 (c_X0_faultOf l E (x + 1) co kd a y z hO hkd ga gy gz) kvX0_faultOf kiX0_faultOf kl_X9_362 rfl rfl (As := [.int (zI kd), .int (zI a), .int (zI y), .int (zI z)]) rfl rfl rfl dX9_change_9 12 rfl ?_
  show V p l e (rmL 9 0 0) s m args below meth cd Q 6 s.heap [] 0 0 12 [(0, .ref x), (1, .int (zI kd)), (2, .int (zI a)), (3, .int (zI y)), (4, .int (zI f)), (5, .int (zI z))] [.ref (E 103 (flC co kd a y z))]
  refine V_S (st' := [.ref (E 103 0)]) (by rw [hf]) ?_
  refine v_rdS X hM.C (ws0 E s.heap) (c_X9_refuse l E ) kvX9_refuse ksX9_refuse kl_X9_366 (As := [.ref (E 103 0)]) rfl rfl rfl dX9_change_12 15 rfl ?_
  show V p l e (rmL 9 0 0) s m args below meth cd Q 6 s.heap [] 0 0 15 [(0, .ref x), (1, .int (zI kd)), (2, .int (zI a)), (3, .int (zI y)), (4, .int (zI f)), (5, .int (zI z))] []
  refine v_aload_n X dX9_change_15 16 rfl 0 rfl ?_
  refine v_getf X hM.C h_cm.1 inX9 0 rfl rfl 3 (by decide) kf_X9_25 (fun _ h => h) rfl dX9_change_16 19 rfl ?_
  refine v_aload_n X dX9_change_19 20 rfl 0 rfl ?_
  refine v_getf X hM.C h_cm.1 inX9 0 rfl rfl 0 (by decide) kf_X9_10 (fun _ h => h) rfl dX9_change_20 23 rfl ?_
  refine v_muV X hM (h_hi.1) (c_X4_keep l E (x + 85) (x + 1) co hc nx sz n0 n1 s0 s1 (by omega) (by omega) (by omega)) kvX4_keep kiX4_keep kl_X9_370 (q0 := 0) rfl rfl (As := [.ref (x + 1)]) rfl rfl rfl dX9_change_23 26 rfl (k' := 0) (n' := 0) rfl rfl (by intro q hq; simp only [Fr, Fs, or_false, false_or] at hq ⊢; omega) ⟨h_hi, h_hf, h_co⟩ (fun rv H1 lo1 hM hF hpo => ?_)
  obtain ⟨rfl, hw_0, hw_1⟩ := hpo
  have h_hi : PR E (x + 85) [(x + 85, .inr (7, [.ref ((x + 85) + 1), .int (zI (if nx < 7 then nx + 1 else 0)), .int (zI (min (sz + 1) 8))])), (x + 86, .inl (E 102 3, 8, .inr (.inr (.inr (.inr (hisA ((x + 85) + 2) 8))))))] H1 := hw_0
  have h_hf : HF E ((x + 85) + 2) 8 (fun j => if j = nx.toNat then co else hc j) H1 := hw_1
  replace h_cm := h_cm.kept hF 1 rfl (by intro q q1 q2 q3; simp only [Fs, or_false] at q3; omega)
  replace h_co := h_co.kept hF 28 rfl (by intro q q1 q2 q3; simp only [Fs, or_false] at q3; omega)
  show V p l e (rmL 9 0 0) s m args below meth cd Q 6 H1 lo1 0 0 26 [(0, .ref x), (1, .int (zI kd)), (2, .int (zI a)), (3, .int (zI y)), (4, .int (zI f)), (5, .int (zI z))] []
  refine v_aload_n X dX9_change_26 27 rfl 0 rfl ?_
  refine v_getf X hM.C h_cm.1 inX9 0 rfl rfl 0 (by decide) kf_X9_10 (fun _ h => h) rfl dX9_change_27 30 rfl ?_
  refine v_iload_n X dX9_change_30 31 rfl 1 rfl ?_
  refine v_iload_n X dX9_change_31 32 rfl 2 rfl ?_
  refine v_iload_n X dX9_change_32 33 rfl 3 rfl ?_
  refine v_iload X dX9_change_33 35 rfl 4 rfl ?_
  refine v_iload X dX9_change_35 37 rfl 5 rfl ?_
  refine v_muV X hM (h_co.1) (c_X0_perform l E (x + 1) co kd a y f z hO hkd ga gy gz hb hf) kvX0_perform kiX0_perform kl_X9_373 (q0 := 0) rfl rfl (As := [.int (zI kd), .int (zI a), .int (zI y), .int (zI f), .int (zI z)]) rfl rfl rfl dX9_change_37 40 rfl (k' := 0) (n' := 0) rfl rfl (fsI (fun q q1 q2 => (Or.inl (fsH (by omega) (by omega))))) h_co (fun rv H2 lo2 hM hF hpo => ?_)
  obtain ⟨rfl, hw_0⟩ := hpo
  have h_co : PR E (x + 1) (courtW E (x + 1) (opC co kd a y f z)) H2 := hw_0
  replace h_cm := h_cm.kept hF 1 rfl (fsd (by omega))
  replace h_hi := h_hi.kept hF 2 rfl (fsd (by omega))
  replace h_hf := h_hf.kept hF (fsd (by omega))
  show V p l e (rmL 9 0 0) s m args below meth cd Q 6 H2 lo2 0 0 40 [(0, .ref x), (1, .int (zI kd)), (2, .int (zI a)), (3, .int (zI y)), (4, .int (zI f)), (5, .int (zI z))] [.int (zI (opV co kd a y f z))]
  subst hQ; exact m_iret X hr hlk hM dX9_change_40 rfl ⟨rfl, h_co, h_hi, h_hf⟩
set_option maxHeartbeats 4000000 in
set_option maxRecDepth 20000 in
theorem x_X9_change_1 (l : Launch) (hl : l.stackTraces = false) (E : Nat → Nat → Nat) (x : Nat) (co : Nat → Int → Int) (hs : Int) (er : Int) (fa : Int) (ss : Int) (kd : Int) (a : Int) (y : Int) (f : Int) (z : Int) (hO : OkC co) (hkd : 0 ≤ kd ∧ kd ≤ 6) (ga : Rg a) (gy : Rg y) (gz : Rg z) (hf : flC co kd a y z = 1) : Tx l yX9_change cX9_change 6 (some .int) 9 1 6 E [] [.ref x, .int (zI kd), .int (zI a), .int (zI y), .int (zI f), .int (zI z)] (fun H => PR E x [(x, .inr (11, [.ref (x + 1), .ref (x + 29), .ref (x + 57), .ref (x + 85), .ref (x + 311), .ref (x + 314), .ref (x + 319), .ref (x + 332), .int (zI hs), .int (zI er), .int (zI fa), .int (zI ss)]))] H ∧ PR E (x + 1) (courtW E (x + 1) co) H) "java/lang/IndexOutOfBoundsException" (fun H => True) := by
  refine Tx.start (own := RX9) rfl (by decide +kernel) (Nat.le_of_ble_eq_true rfl) ?_
  intro p e s m below meth cd args Q hQ X tb hlk hM hPr
  obtain ⟨h_cm, h_co⟩ := hPr
  have hb0 := hO.b0
  have hbw := hO.bw
  refine v_aload_n X dX9_change_0 1 rfl 0 rfl ?_
  refine v_getf X hM.C h_cm.1 inX9 0 rfl rfl 0 (by decide) kf_X9_10 (fun _ h => h) rfl dX9_change_1 4 rfl ?_
  refine v_iload_n X dX9_change_4 5 rfl 1 rfl ?_
  refine v_iload_n X dX9_change_5 6 rfl 2 rfl ?_
  refine v_iload_n X dX9_change_6 7 rfl 3 rfl ?_
  refine v_iload X dX9_change_7 9 rfl 5 rfl ?_
  refine v_rdV X hM.C h_co.1 (c_X0_faultOf l E (x + 1) co kd a y z hO hkd ga gy gz) kvX0_faultOf kiX0_faultOf kl_X9_362 rfl rfl (As := [.int (zI kd), .int (zI a), .int (zI y), .int (zI z)]) rfl rfl rfl dX9_change_9 12 rfl ?_
  show V p l e (rmL 9 1 6) s m args below meth cd Q 6 s.heap [] 0 0 12 [(0, .ref x), (1, .int (zI kd)), (2, .int (zI a)), (3, .int (zI y)), (4, .int (zI f)), (5, .int (zI z))] [.ref (E 103 (flC co kd a y z))]
  refine V_S (st' := [.ref (E 103 1)]) (by rw [hf]) ?_
  subst hQ; exact v_txS X tb hlk hM (x_X9_refuse_1 l hl E ) kvX9_refuse ksX9_refuse kl_X9_366 (As := [.ref (E 103 1)]) rfl rfl rfl rfl dX9_change_12 (fun q hq => hq.elim) trivial (fun H1 hF hpo => trivial)
set_option maxHeartbeats 4000000 in
set_option maxRecDepth 20000 in
theorem x_X9_change_2 (l : Launch) (hl : l.stackTraces = false) (E : Nat → Nat → Nat) (x : Nat) (co : Nat → Int → Int) (hs : Int) (er : Int) (fa : Int) (ss : Int) (kd : Int) (a : Int) (y : Int) (f : Int) (z : Int) (hO : OkC co) (hkd : 0 ≤ kd ∧ kd ≤ 6) (ga : Rg a) (gy : Rg y) (gz : Rg z) (hf : flC co kd a y z = 2) : Tx l yX9_change cX9_change 6 (some .int) 9 1 6 E [] [.ref x, .int (zI kd), .int (zI a), .int (zI y), .int (zI f), .int (zI z)] (fun H => PR E x [(x, .inr (11, [.ref (x + 1), .ref (x + 29), .ref (x + 57), .ref (x + 85), .ref (x + 311), .ref (x + 314), .ref (x + 319), .ref (x + 332), .int (zI hs), .int (zI er), .int (zI fa), .int (zI ss)]))] H ∧ PR E (x + 1) (courtW E (x + 1) co) H) "java/lang/IllegalArgumentException" (fun H => True) := by
  refine Tx.start (own := RX9) rfl (by decide +kernel) (Nat.le_of_ble_eq_true rfl) ?_
  intro p e s m below meth cd args Q hQ X tb hlk hM hPr
  obtain ⟨h_cm, h_co⟩ := hPr
  have hb0 := hO.b0
  have hbw := hO.bw
  refine v_aload_n X dX9_change_0 1 rfl 0 rfl ?_
  refine v_getf X hM.C h_cm.1 inX9 0 rfl rfl 0 (by decide) kf_X9_10 (fun _ h => h) rfl dX9_change_1 4 rfl ?_
  refine v_iload_n X dX9_change_4 5 rfl 1 rfl ?_
  refine v_iload_n X dX9_change_5 6 rfl 2 rfl ?_
  refine v_iload_n X dX9_change_6 7 rfl 3 rfl ?_
  refine v_iload X dX9_change_7 9 rfl 5 rfl ?_
  refine v_rdV X hM.C h_co.1 (c_X0_faultOf l E (x + 1) co kd a y z hO hkd ga gy gz) kvX0_faultOf kiX0_faultOf kl_X9_362 rfl rfl (As := [.int (zI kd), .int (zI a), .int (zI y), .int (zI z)]) rfl rfl rfl dX9_change_9 12 rfl ?_
  show V p l e (rmL 9 1 6) s m args below meth cd Q 6 s.heap [] 0 0 12 [(0, .ref x), (1, .int (zI kd)), (2, .int (zI a)), (3, .int (zI y)), (4, .int (zI f)), (5, .int (zI z))] [.ref (E 103 (flC co kd a y z))]
  refine V_S (st' := [.ref (E 103 2)]) (by rw [hf]) ?_
  subst hQ; exact v_txS X tb hlk hM (x_X9_refuse_2 l hl E ) kvX9_refuse ksX9_refuse kl_X9_366 (As := [.ref (E 103 2)]) rfl rfl rfl rfl dX9_change_12 (fun q hq => hq.elim) trivial (fun H1 hF hpo => trivial)
set_option maxHeartbeats 4000000 in
set_option maxRecDepth 20000 in
theorem x_X9_change_3 (l : Launch) (hl : l.stackTraces = false) (E : Nat → Nat → Nat) (x : Nat) (co : Nat → Int → Int) (hs : Int) (er : Int) (fa : Int) (ss : Int) (kd : Int) (a : Int) (y : Int) (f : Int) (z : Int) (hO : OkC co) (hkd : 0 ≤ kd ∧ kd ≤ 6) (ga : Rg a) (gy : Rg y) (gz : Rg z) (hf : flC co kd a y z = 3) : Tx l yX9_change cX9_change 6 (some .int) 9 1 6 E [] [.ref x, .int (zI kd), .int (zI a), .int (zI y), .int (zI f), .int (zI z)] (fun H => PR E x [(x, .inr (11, [.ref (x + 1), .ref (x + 29), .ref (x + 57), .ref (x + 85), .ref (x + 311), .ref (x + 314), .ref (x + 319), .ref (x + 332), .int (zI hs), .int (zI er), .int (zI fa), .int (zI ss)]))] H ∧ PR E (x + 1) (courtW E (x + 1) co) H) "java/util/NoSuchElementException" (fun H => True) := by
  refine Tx.start (own := RX9) rfl (by decide +kernel) (Nat.le_of_ble_eq_true rfl) ?_
  intro p e s m below meth cd args Q hQ X tb hlk hM hPr
  obtain ⟨h_cm, h_co⟩ := hPr
  have hb0 := hO.b0
  have hbw := hO.bw
  refine v_aload_n X dX9_change_0 1 rfl 0 rfl ?_
  refine v_getf X hM.C h_cm.1 inX9 0 rfl rfl 0 (by decide) kf_X9_10 (fun _ h => h) rfl dX9_change_1 4 rfl ?_
  refine v_iload_n X dX9_change_4 5 rfl 1 rfl ?_
  refine v_iload_n X dX9_change_5 6 rfl 2 rfl ?_
  refine v_iload_n X dX9_change_6 7 rfl 3 rfl ?_
  refine v_iload X dX9_change_7 9 rfl 5 rfl ?_
  refine v_rdV X hM.C h_co.1 (c_X0_faultOf l E (x + 1) co kd a y z hO hkd ga gy gz) kvX0_faultOf kiX0_faultOf kl_X9_362 rfl rfl (As := [.int (zI kd), .int (zI a), .int (zI y), .int (zI z)]) rfl rfl rfl dX9_change_9 12 rfl ?_
  show V p l e (rmL 9 1 6) s m args below meth cd Q 6 s.heap [] 0 0 12 [(0, .ref x), (1, .int (zI kd)), (2, .int (zI a)), (3, .int (zI y)), (4, .int (zI f)), (5, .int (zI z))] [.ref (E 103 (flC co kd a y z))]
  refine V_S (st' := [.ref (E 103 3)]) (by rw [hf]) ?_
  subst hQ; exact v_txS X tb hlk hM (x_X9_refuse_3 l hl E ) kvX9_refuse ksX9_refuse kl_X9_366 (As := [.ref (E 103 3)]) rfl rfl rfl rfl dX9_change_12 (fun q hq => hq.elim) trivial (fun H1 hF hpo => trivial)
set_option maxHeartbeats 4000000 in
set_option maxRecDepth 20000 in
theorem x_X9_change_4 (l : Launch) (hl : l.stackTraces = false) (E : Nat → Nat → Nat) (x : Nat) (co : Nat → Int → Int) (hs : Int) (er : Int) (fa : Int) (ss : Int) (kd : Int) (a : Int) (y : Int) (f : Int) (z : Int) (hO : OkC co) (hkd : 0 ≤ kd ∧ kd ≤ 6) (ga : Rg a) (gy : Rg y) (gz : Rg z) (hf : flC co kd a y z = 4) : Tx l yX9_change cX9_change 6 (some .int) 9 1 6 E [] [.ref x, .int (zI kd), .int (zI a), .int (zI y), .int (zI f), .int (zI z)] (fun H => PR E x [(x, .inr (11, [.ref (x + 1), .ref (x + 29), .ref (x + 57), .ref (x + 85), .ref (x + 311), .ref (x + 314), .ref (x + 319), .ref (x + 332), .int (zI hs), .int (zI er), .int (zI fa), .int (zI ss)]))] H ∧ PR E (x + 1) (courtW E (x + 1) co) H) "java/lang/IllegalStateException" (fun H => True) := by
  refine Tx.start (own := RX9) rfl (by decide +kernel) (Nat.le_of_ble_eq_true rfl) ?_
  intro p e s m below meth cd args Q hQ X tb hlk hM hPr
  obtain ⟨h_cm, h_co⟩ := hPr
  have hb0 := hO.b0
  have hbw := hO.bw
  refine v_aload_n X dX9_change_0 1 rfl 0 rfl ?_
  refine v_getf X hM.C h_cm.1 inX9 0 rfl rfl 0 (by decide) kf_X9_10 (fun _ h => h) rfl dX9_change_1 4 rfl ?_
  refine v_iload_n X dX9_change_4 5 rfl 1 rfl ?_
  refine v_iload_n X dX9_change_5 6 rfl 2 rfl ?_
  refine v_iload_n X dX9_change_6 7 rfl 3 rfl ?_
  refine v_iload X dX9_change_7 9 rfl 5 rfl ?_
  refine v_rdV X hM.C h_co.1 (c_X0_faultOf l E (x + 1) co kd a y z hO hkd ga gy gz) kvX0_faultOf kiX0_faultOf kl_X9_362 rfl rfl (As := [.int (zI kd), .int (zI a), .int (zI y), .int (zI z)]) rfl rfl rfl dX9_change_9 12 rfl ?_
  show V p l e (rmL 9 1 6) s m args below meth cd Q 6 s.heap [] 0 0 12 [(0, .ref x), (1, .int (zI kd)), (2, .int (zI a)), (3, .int (zI y)), (4, .int (zI f)), (5, .int (zI z))] [.ref (E 103 (flC co kd a y z))]
  refine V_S (st' := [.ref (E 103 4)]) (by rw [hf]) ?_
  subst hQ; exact v_txS X tb hlk hM (x_X9_refuse_4 l hl E ) kvX9_refuse ksX9_refuse kl_X9_366 (As := [.ref (E 103 4)]) rfl rfl rfl rfl dX9_change_12 (fun q hq => hq.elim) trivial (fun H1 hF hpo => trivial)
theorem opV4_b (co : Nat → Int → Int) (a y f z : Int) : 0 ≤ opV co 4 a y f z ∧ opV co 4 a y f z ≤ 1 := by
  have e : opV co 4 a y f z = if 0 < mgC co a then 1 else 0 := rfl
  rw [e]
  split <;> omega
set_option maxHeartbeats 4000000 in
set_option maxRecDepth 20000 in
theorem c_X9_charge (l : Launch) (E : Nat → Nat → Nat) (x : Nat) (co : Nat → Int → Int) (hs : Int) (er : Int) (fa : Int) (ss : Int) (d : Int) (o : Int) (hc : Nat → Nat → Int → Int) (nx : Int) (sz : Int) (hO : OkC co) (gd : Rg d) (go : Rg o) (hf : flC co 0 d o 0 = 0) (n0 : 0 ≤ nx) (n1 : nx < 8) (s0 : 0 ≤ sz) (s1 : sz ≤ 8) (hd_cm_co : x + 1 ≤ x + 1 ∨ x + 1 + 28 ≤ x) (hd_cm_hi : x + 1 ≤ x + 85 ∨ x + 85 + 2 ≤ x) (hd_cm_hf : x + 1 ≤ x + 87 ∨ x + 87 + 224 ≤ x) (hd_co_hi : x + 1 + 28 ≤ x + 85 ∨ x + 85 + 2 ≤ x + 1) (hd_co_hf : x + 1 + 28 ≤ x + 87 ∨ x + 87 + 224 ≤ x + 1) (hd_hi_hf : x + 85 + 2 ≤ x + 87 ∨ x + 87 + 224 ≤ x + 85) : Mu l yX9_charge cX9_charge 3 (some .int) 10 0 0 E [(x + 1, 28), (x + 85, 2), (x + 87, 224)] [.ref x, .int (zI d), .int (zI o)] (fun H => PR E x [(x, .inr (11, [.ref (x + 1), .ref (x + 29), .ref (x + 57), .ref (x + 85), .ref (x + 311), .ref (x + 314), .ref (x + 319), .ref (x + 332), .int (zI hs), .int (zI er), .int (zI fa), .int (zI ss)]))] H ∧ PR E (x + 1) (courtW E (x + 1) co) H ∧ PR E (x + 85) [(x + 85, .inr (7, [.ref (x + 86), .int (zI nx), .int (zI sz)])), (x + 86, .inl (E 102 3, 8, .inr (.inr (.inr (.inr (hisA (x + 87) 8))))))] H ∧ HF E (x + 87) 8 hc H) (fun rv H => rv = some (.int (zI (opV co 0 d o 0 0))) ∧ PR E (x + 1) (courtW E (x + 1) (opC co 0 d o 0 0)) H ∧ PR E (x + 85) [(x + 85, .inr (7, [.ref (x + 86), .int (zI (if nx < 7 then nx + 1 else 0)), .int (zI (min (sz + 1) 8))])), (x + 86, .inl (E 102 3, 8, .inr (.inr (.inr (.inr (hisA (x + 87) 8))))))] H ∧ HF E (x + 87) 8 (fun j => if j = nx.toNat then co else hc j) H) := by
  refine Mu.start (own := RX9) rfl (by decide +kernel) (Nat.le_of_ble_eq_true rfl) ?_
  intro p e s m below meth cd args Q hQ X hr hlk hnm hM hPr
  obtain ⟨h_cm, h_co, h_hi, h_hf⟩ := hPr
  have hb0 := hO.b0
  have hbw := hO.bw
  refine v_aload_n X dX9_charge_0 1 rfl 0 rfl ?_
  refine v_iconst X dX9_charge_1 2 rfl ?_
  refine v_iload_n X dX9_charge_2 3 rfl 1 rfl ?_
  refine v_iload_n X dX9_charge_3 4 rfl 2 rfl ?_
  refine v_iconst X dX9_charge_4 5 rfl ?_
  refine v_iconst X dX9_charge_5 6 rfl ?_
  refine v_muV X hM (h_cm.1) (c_X9_change l E x co hs er fa ss 0 d o 0 0 hc nx sz hO (by omega) gd go (by omega) (by omega) hf n0 n1 s0 s1 hd_cm_co hd_cm_hi hd_cm_hf hd_co_hi hd_co_hf hd_hi_hf) kvX9_change kiX9_change kl_X9_71 (q0 := 0) rfl rfl (As := [.int (zI 0), .int (zI d), .int (zI o), .int (zI 0), .int (zI 0)]) rfl rfl rfl dX9_charge_6 9 rfl (k' := 0) (n' := 0) rfl rfl (by intro q hq; simp only [Fr, Fs, or_false, false_or] at hq ⊢; omega) ⟨h_cm, h_co, h_hi, h_hf⟩ (fun rv H1 lo1 hM hF hpo => ?_)
  obtain ⟨rfl, hw_0, hw_1, hw_2⟩ := hpo
  have h_co : PR E (x + 1) (courtW E (x + 1) (opC co 0 d o 0 0)) H1 := hw_0
  have h_hi : PR E (x + 85) [(x + 85, .inr (7, [.ref (x + 86), .int (zI (if nx < 7 then nx + 1 else 0)), .int (zI (min (sz + 1) 8))])), (x + 86, .inl (E 102 3, 8, .inr (.inr (.inr (.inr (hisA (x + 87) 8))))))] H1 := hw_1
  have h_hf : HF E (x + 87) 8 (fun j => if j = nx.toNat then co else hc j) H1 := hw_2
  replace h_cm := h_cm.kept hF 1 rfl (by intro q q1 q2 q3; simp only [Fs, or_false] at q3; omega)
  show V p l e (rmL 10 0 0) s m args below meth cd Q 3 H1 lo1 0 0 9 [(0, .ref x), (1, .int (zI d)), (2, .int (zI o))] [.int (zI (opV co 0 d o 0 0))]
  subst hQ; exact m_iret X hr hlk hM dX9_charge_9 rfl ⟨rfl, h_co, h_hi, h_hf⟩
set_option maxHeartbeats 4000000 in
set_option maxRecDepth 20000 in
theorem x_X9_charge_2 (l : Launch) (hl : l.stackTraces = false) (E : Nat → Nat → Nat) (x : Nat) (co : Nat → Int → Int) (hs : Int) (er : Int) (fa : Int) (ss : Int) (d : Int) (o : Int) (hO : OkC co) (gd : Rg d) (go : Rg o) (hf : flC co 0 d o 0 = 2) : Tx l yX9_charge cX9_charge 3 (some .int) 10 1 6 E [] [.ref x, .int (zI d), .int (zI o)] (fun H => PR E x [(x, .inr (11, [.ref (x + 1), .ref (x + 29), .ref (x + 57), .ref (x + 85), .ref (x + 311), .ref (x + 314), .ref (x + 319), .ref (x + 332), .int (zI hs), .int (zI er), .int (zI fa), .int (zI ss)]))] H ∧ PR E (x + 1) (courtW E (x + 1) co) H) "java/lang/IllegalArgumentException" (fun H => True) := by
  refine Tx.start (own := RX9) rfl (by decide +kernel) (Nat.le_of_ble_eq_true rfl) ?_
  intro p e s m below meth cd args Q hQ X tb hlk hM hPr
  obtain ⟨h_cm, h_co⟩ := hPr
  have hb0 := hO.b0
  have hbw := hO.bw
  refine v_aload_n X dX9_charge_0 1 rfl 0 rfl ?_
  refine v_iconst X dX9_charge_1 2 rfl ?_
  refine v_iload_n X dX9_charge_2 3 rfl 1 rfl ?_
  refine v_iload_n X dX9_charge_3 4 rfl 2 rfl ?_
  refine v_iconst X dX9_charge_4 5 rfl ?_
  refine v_iconst X dX9_charge_5 6 rfl ?_
  subst hQ; exact v_txV X tb hlk hM (h_cm.1) (x_X9_change_2 l hl E x co hs er fa ss 0 d o 0 0 hO (by omega) gd go (by omega) hf) kvX9_change kiX9_change kl_X9_71 (q0 := 0) rfl rfl (As := [.int (zI 0), .int (zI d), .int (zI o), .int (zI 0), .int (zI 0)]) rfl rfl rfl rfl dX9_charge_6 (fun q hq => hq.elim) ⟨h_cm, h_co⟩ (fun H1 hF hpo => trivial)
set_option maxHeartbeats 4000000 in
set_option maxRecDepth 20000 in
theorem x_X9_charge_4 (l : Launch) (hl : l.stackTraces = false) (E : Nat → Nat → Nat) (x : Nat) (co : Nat → Int → Int) (hs : Int) (er : Int) (fa : Int) (ss : Int) (d : Int) (o : Int) (hO : OkC co) (gd : Rg d) (go : Rg o) (hf : flC co 0 d o 0 = 4) : Tx l yX9_charge cX9_charge 3 (some .int) 10 1 6 E [] [.ref x, .int (zI d), .int (zI o)] (fun H => PR E x [(x, .inr (11, [.ref (x + 1), .ref (x + 29), .ref (x + 57), .ref (x + 85), .ref (x + 311), .ref (x + 314), .ref (x + 319), .ref (x + 332), .int (zI hs), .int (zI er), .int (zI fa), .int (zI ss)]))] H ∧ PR E (x + 1) (courtW E (x + 1) co) H) "java/lang/IllegalStateException" (fun H => True) := by
  refine Tx.start (own := RX9) rfl (by decide +kernel) (Nat.le_of_ble_eq_true rfl) ?_
  intro p e s m below meth cd args Q hQ X tb hlk hM hPr
  obtain ⟨h_cm, h_co⟩ := hPr
  have hb0 := hO.b0
  have hbw := hO.bw
  refine v_aload_n X dX9_charge_0 1 rfl 0 rfl ?_
  refine v_iconst X dX9_charge_1 2 rfl ?_
  refine v_iload_n X dX9_charge_2 3 rfl 1 rfl ?_
  refine v_iload_n X dX9_charge_3 4 rfl 2 rfl ?_
  refine v_iconst X dX9_charge_4 5 rfl ?_
  refine v_iconst X dX9_charge_5 6 rfl ?_
  subst hQ; exact v_txV X tb hlk hM (h_cm.1) (x_X9_change_4 l hl E x co hs er fa ss 0 d o 0 0 hO (by omega) gd go (by omega) hf) kvX9_change kiX9_change kl_X9_71 (q0 := 0) rfl rfl (As := [.int (zI 0), .int (zI d), .int (zI o), .int (zI 0), .int (zI 0)]) rfl rfl rfl rfl dX9_charge_6 (fun q hq => hq.elim) ⟨h_cm, h_co⟩ (fun H1 hF hpo => trivial)
set_option maxHeartbeats 4000000 in
set_option maxRecDepth 20000 in
theorem c_X9_addWitness (l : Launch) (E : Nat → Nat → Nat) (x : Nat) (co : Nat → Int → Int) (hs : Int) (er : Int) (fa : Int) (ss : Int) (v : Int) (hc : Nat → Nat → Int → Int) (nx : Int) (sz : Int) (hO : OkC co) (gv : Rg v) (hf : flC co 1 v 0 0 = 0) (n0 : 0 ≤ nx) (n1 : nx < 8) (s0 : 0 ≤ sz) (s1 : sz ≤ 8) (hd_cm_co : x + 1 ≤ x + 1 ∨ x + 1 + 28 ≤ x) (hd_cm_hi : x + 1 ≤ x + 85 ∨ x + 85 + 2 ≤ x) (hd_cm_hf : x + 1 ≤ x + 87 ∨ x + 87 + 224 ≤ x) (hd_co_hi : x + 1 + 28 ≤ x + 85 ∨ x + 85 + 2 ≤ x + 1) (hd_co_hf : x + 1 + 28 ≤ x + 87 ∨ x + 87 + 224 ≤ x + 1) (hd_hi_hf : x + 85 + 2 ≤ x + 87 ∨ x + 87 + 224 ≤ x + 85) : Mu l yX9_addWitness cX9_addWitness 2 (some .int) 10 0 0 E [(x + 1, 28), (x + 85, 2), (x + 87, 224)] [.ref x, .int (zI v)] (fun H => PR E x [(x, .inr (11, [.ref (x + 1), .ref (x + 29), .ref (x + 57), .ref (x + 85), .ref (x + 311), .ref (x + 314), .ref (x + 319), .ref (x + 332), .int (zI hs), .int (zI er), .int (zI fa), .int (zI ss)]))] H ∧ PR E (x + 1) (courtW E (x + 1) co) H ∧ PR E (x + 85) [(x + 85, .inr (7, [.ref (x + 86), .int (zI nx), .int (zI sz)])), (x + 86, .inl (E 102 3, 8, .inr (.inr (.inr (.inr (hisA (x + 87) 8))))))] H ∧ HF E (x + 87) 8 hc H) (fun rv H => rv = some (.int (zI (opV co 1 v 0 0 0))) ∧ PR E (x + 1) (courtW E (x + 1) (opC co 1 v 0 0 0)) H ∧ PR E (x + 85) [(x + 85, .inr (7, [.ref (x + 86), .int (zI (if nx < 7 then nx + 1 else 0)), .int (zI (min (sz + 1) 8))])), (x + 86, .inl (E 102 3, 8, .inr (.inr (.inr (.inr (hisA (x + 87) 8))))))] H ∧ HF E (x + 87) 8 (fun j => if j = nx.toNat then co else hc j) H) := by
  refine Mu.start (own := RX9) rfl (by decide +kernel) (Nat.le_of_ble_eq_true rfl) ?_
  intro p e s m below meth cd args Q hQ X hr hlk hnm hM hPr
  obtain ⟨h_cm, h_co, h_hi, h_hf⟩ := hPr
  have hb0 := hO.b0
  have hbw := hO.bw
  refine v_aload_n X dX9_addWitness_0 1 rfl 0 rfl ?_
  refine v_iconst X dX9_addWitness_1 2 rfl ?_
  refine v_iload_n X dX9_addWitness_2 3 rfl 1 rfl ?_
  refine v_iconst X dX9_addWitness_3 4 rfl ?_
  refine v_iconst X dX9_addWitness_4 5 rfl ?_
  refine v_iconst X dX9_addWitness_5 6 rfl ?_
  refine v_muV X hM (h_cm.1) (c_X9_change l E x co hs er fa ss 1 v 0 0 0 hc nx sz hO (by omega) gv (by omega) (by omega) (by omega) hf n0 n1 s0 s1 hd_cm_co hd_cm_hi hd_cm_hf hd_co_hi hd_co_hf hd_hi_hf) kvX9_change kiX9_change kl_X9_71 (q0 := 0) rfl rfl (As := [.int (zI 1), .int (zI v), .int (zI 0), .int (zI 0), .int (zI 0)]) rfl rfl rfl dX9_addWitness_6 9 rfl (k' := 0) (n' := 0) rfl rfl (by intro q hq; simp only [Fr, Fs, or_false, false_or] at hq ⊢; omega) ⟨h_cm, h_co, h_hi, h_hf⟩ (fun rv H1 lo1 hM hF hpo => ?_)
  obtain ⟨rfl, hw_0, hw_1, hw_2⟩ := hpo
  have h_co : PR E (x + 1) (courtW E (x + 1) (opC co 1 v 0 0 0)) H1 := hw_0
  have h_hi : PR E (x + 85) [(x + 85, .inr (7, [.ref (x + 86), .int (zI (if nx < 7 then nx + 1 else 0)), .int (zI (min (sz + 1) 8))])), (x + 86, .inl (E 102 3, 8, .inr (.inr (.inr (.inr (hisA (x + 87) 8))))))] H1 := hw_1
  have h_hf : HF E (x + 87) 8 (fun j => if j = nx.toNat then co else hc j) H1 := hw_2
  replace h_cm := h_cm.kept hF 1 rfl (by intro q q1 q2 q3; simp only [Fs, or_false] at q3; omega)
  show V p l e (rmL 10 0 0) s m args below meth cd Q 2 H1 lo1 0 0 9 [(0, .ref x), (1, .int (zI v))] [.int (zI (opV co 1 v 0 0 0))]
  have hb_2 := hO.b1 v
  subst hQ; exact m_iret X hr hlk hM dX9_addWitness_9 rfl ⟨rfl, h_co, h_hi, h_hf⟩
set_option maxHeartbeats 4000000 in
set_option maxRecDepth 20000 in
theorem x_X9_addWitness_2 (l : Launch) (hl : l.stackTraces = false) (E : Nat → Nat → Nat) (x : Nat) (co : Nat → Int → Int) (hs : Int) (er : Int) (fa : Int) (ss : Int) (v : Int) (hO : OkC co) (gv : Rg v) (hf : flC co 1 v 0 0 = 2) : Tx l yX9_addWitness cX9_addWitness 2 (some .int) 10 1 6 E [] [.ref x, .int (zI v)] (fun H => PR E x [(x, .inr (11, [.ref (x + 1), .ref (x + 29), .ref (x + 57), .ref (x + 85), .ref (x + 311), .ref (x + 314), .ref (x + 319), .ref (x + 332), .int (zI hs), .int (zI er), .int (zI fa), .int (zI ss)]))] H ∧ PR E (x + 1) (courtW E (x + 1) co) H) "java/lang/IllegalArgumentException" (fun H => True) := by
  refine Tx.start (own := RX9) rfl (by decide +kernel) (Nat.le_of_ble_eq_true rfl) ?_
  intro p e s m below meth cd args Q hQ X tb hlk hM hPr
  obtain ⟨h_cm, h_co⟩ := hPr
  have hb0 := hO.b0
  have hbw := hO.bw
  refine v_aload_n X dX9_addWitness_0 1 rfl 0 rfl ?_
  refine v_iconst X dX9_addWitness_1 2 rfl ?_
  refine v_iload_n X dX9_addWitness_2 3 rfl 1 rfl ?_
  refine v_iconst X dX9_addWitness_3 4 rfl ?_
  refine v_iconst X dX9_addWitness_4 5 rfl ?_
  refine v_iconst X dX9_addWitness_5 6 rfl ?_
  subst hQ; exact v_txV X tb hlk hM (h_cm.1) (x_X9_change_2 l hl E x co hs er fa ss 1 v 0 0 0 hO (by omega) gv (by omega) (by omega) hf) kvX9_change kiX9_change kl_X9_71 (q0 := 0) rfl rfl (As := [.int (zI 1), .int (zI v), .int (zI 0), .int (zI 0), .int (zI 0)]) rfl rfl rfl rfl dX9_addWitness_6 (fun q hq => hq.elim) ⟨h_cm, h_co⟩ (fun H1 hF hpo => trivial)
set_option maxHeartbeats 4000000 in
set_option maxRecDepth 20000 in
theorem x_X9_addWitness_4 (l : Launch) (hl : l.stackTraces = false) (E : Nat → Nat → Nat) (x : Nat) (co : Nat → Int → Int) (hs : Int) (er : Int) (fa : Int) (ss : Int) (v : Int) (hO : OkC co) (gv : Rg v) (hf : flC co 1 v 0 0 = 4) : Tx l yX9_addWitness cX9_addWitness 2 (some .int) 10 1 6 E [] [.ref x, .int (zI v)] (fun H => PR E x [(x, .inr (11, [.ref (x + 1), .ref (x + 29), .ref (x + 57), .ref (x + 85), .ref (x + 311), .ref (x + 314), .ref (x + 319), .ref (x + 332), .int (zI hs), .int (zI er), .int (zI fa), .int (zI ss)]))] H ∧ PR E (x + 1) (courtW E (x + 1) co) H) "java/lang/IllegalStateException" (fun H => True) := by
  refine Tx.start (own := RX9) rfl (by decide +kernel) (Nat.le_of_ble_eq_true rfl) ?_
  intro p e s m below meth cd args Q hQ X tb hlk hM hPr
  obtain ⟨h_cm, h_co⟩ := hPr
  have hb0 := hO.b0
  have hbw := hO.bw
  refine v_aload_n X dX9_addWitness_0 1 rfl 0 rfl ?_
  refine v_iconst X dX9_addWitness_1 2 rfl ?_
  refine v_iload_n X dX9_addWitness_2 3 rfl 1 rfl ?_
  refine v_iconst X dX9_addWitness_3 4 rfl ?_
  refine v_iconst X dX9_addWitness_4 5 rfl ?_
  refine v_iconst X dX9_addWitness_5 6 rfl ?_
  subst hQ; exact v_txV X tb hlk hM (h_cm.1) (x_X9_change_4 l hl E x co hs er fa ss 1 v 0 0 0 hO (by omega) gv (by omega) (by omega) hf) kvX9_change kiX9_change kl_X9_71 (q0 := 0) rfl rfl (As := [.int (zI 1), .int (zI v), .int (zI 0), .int (zI 0), .int (zI 0)]) rfl rfl rfl rfl dX9_addWitness_6 (fun q hq => hq.elim) ⟨h_cm, h_co⟩ (fun H1 hF hpo => trivial)
set_option maxHeartbeats 4000000 in
set_option maxRecDepth 20000 in
theorem c_X9_testify (l : Launch) (E : Nat → Nat → Nat) (x : Nat) (co : Nat → Int → Int) (hs : Int) (er : Int) (fa : Int) (ss : Int) (k : Int) (w : Int) (f : Int) (z : Int) (hc : Nat → Nat → Int → Int) (nx : Int) (sz : Int) (hO : OkC co) (gk : Rg k) (gw : Rg w) (gz : Rg z) (gf : 0 ≤ f ∧ f ≤ 1) (hf : flC co 2 k w z = 0) (n0 : 0 ≤ nx) (n1 : nx < 8) (s0 : 0 ≤ sz) (s1 : sz ≤ 8) (hd_cm_co : x + 1 ≤ x + 1 ∨ x + 1 + 28 ≤ x) (hd_cm_hi : x + 1 ≤ x + 85 ∨ x + 85 + 2 ≤ x) (hd_cm_hf : x + 1 ≤ x + 87 ∨ x + 87 + 224 ≤ x) (hd_co_hi : x + 1 + 28 ≤ x + 85 ∨ x + 85 + 2 ≤ x + 1) (hd_co_hf : x + 1 + 28 ≤ x + 87 ∨ x + 87 + 224 ≤ x + 1) (hd_hi_hf : x + 85 + 2 ≤ x + 87 ∨ x + 87 + 224 ≤ x + 85) : Mu l yX9_testify cX9_testify 5 (some .int) 10 0 0 E [(x + 1, 28), (x + 85, 2), (x + 87, 224)] [.ref x, .int (zI k), .int (zI w), .int (zI f), .int (zI z)] (fun H => PR E x [(x, .inr (11, [.ref (x + 1), .ref (x + 29), .ref (x + 57), .ref (x + 85), .ref (x + 311), .ref (x + 314), .ref (x + 319), .ref (x + 332), .int (zI hs), .int (zI er), .int (zI fa), .int (zI ss)]))] H ∧ PR E (x + 1) (courtW E (x + 1) co) H ∧ PR E (x + 85) [(x + 85, .inr (7, [.ref (x + 86), .int (zI nx), .int (zI sz)])), (x + 86, .inl (E 102 3, 8, .inr (.inr (.inr (.inr (hisA (x + 87) 8))))))] H ∧ HF E (x + 87) 8 hc H) (fun rv H => rv = some (.int (zI (opV co 2 k w f z))) ∧ PR E (x + 1) (courtW E (x + 1) (opC co 2 k w f z)) H ∧ PR E (x + 85) [(x + 85, .inr (7, [.ref (x + 86), .int (zI (if nx < 7 then nx + 1 else 0)), .int (zI (min (sz + 1) 8))])), (x + 86, .inl (E 102 3, 8, .inr (.inr (.inr (.inr (hisA (x + 87) 8))))))] H ∧ HF E (x + 87) 8 (fun j => if j = nx.toNat then co else hc j) H) := by
  refine Mu.start (own := RX9) rfl (by decide +kernel) (Nat.le_of_ble_eq_true rfl) ?_
  intro p e s m below meth cd args Q hQ X hr hlk hnm hM hPr
  obtain ⟨h_cm, h_co, h_hi, h_hf⟩ := hPr
  have hb0 := hO.b0
  have hbw := hO.bw
  refine v_aload_n X dX9_testify_0 1 rfl 0 rfl ?_
  refine v_iconst X dX9_testify_1 2 rfl ?_
  refine v_iload_n X dX9_testify_2 3 rfl 1 rfl ?_
  refine v_iload_n X dX9_testify_3 4 rfl 2 rfl ?_
  refine v_iload_n X dX9_testify_4 5 rfl 3 rfl ?_
  refine v_iload X dX9_testify_5 7 rfl 4 rfl ?_
  refine v_muV X hM (h_cm.1) (c_X9_change l E x co hs er fa ss 2 k w f z hc nx sz hO (by omega) gk gw gz gf hf n0 n1 s0 s1 hd_cm_co hd_cm_hi hd_cm_hf hd_co_hi hd_co_hf hd_hi_hf) kvX9_change kiX9_change kl_X9_71 (q0 := 0) rfl rfl (As := [.int (zI 2), .int (zI k), .int (zI w), .int (zI f), .int (zI z)]) rfl rfl rfl dX9_testify_7 10 rfl (k' := 0) (n' := 0) rfl rfl (by intro q hq; simp only [Fr, Fs, or_false, false_or] at hq ⊢; omega) ⟨h_cm, h_co, h_hi, h_hf⟩ (fun rv H1 lo1 hM hF hpo => ?_)
  obtain ⟨rfl, hw_0, hw_1, hw_2⟩ := hpo
  have h_co : PR E (x + 1) (courtW E (x + 1) (opC co 2 k w f z)) H1 := hw_0
  have h_hi : PR E (x + 85) [(x + 85, .inr (7, [.ref (x + 86), .int (zI (if nx < 7 then nx + 1 else 0)), .int (zI (min (sz + 1) 8))])), (x + 86, .inl (E 102 3, 8, .inr (.inr (.inr (.inr (hisA (x + 87) 8))))))] H1 := hw_1
  have h_hf : HF E (x + 87) 8 (fun j => if j = nx.toNat then co else hc j) H1 := hw_2
  replace h_cm := h_cm.kept hF 1 rfl (by intro q q1 q2 q3; simp only [Fs, or_false] at q3; omega)
  show V p l e (rmL 10 0 0) s m args below meth cd Q 5 H1 lo1 0 0 10 [(0, .ref x), (1, .int (zI k)), (2, .int (zI w)), (3, .int (zI f)), (4, .int (zI z))] [.int (zI (opV co 2 k w f z))]
  have hb_2 := hO.b2 k
  subst hQ; exact m_iret X hr hlk hM dX9_testify_10 rfl ⟨rfl, h_co, h_hi, h_hf⟩
set_option maxHeartbeats 4000000 in
set_option maxRecDepth 20000 in
theorem x_X9_testify_1 (l : Launch) (hl : l.stackTraces = false) (E : Nat → Nat → Nat) (x : Nat) (co : Nat → Int → Int) (hs : Int) (er : Int) (fa : Int) (ss : Int) (k : Int) (w : Int) (f : Int) (z : Int) (hO : OkC co) (gk : Rg k) (gw : Rg w) (gz : Rg z) (gf : 0 ≤ f ∧ f ≤ 1) (hf : flC co 2 k w z = 1) : Tx l yX9_testify cX9_testify 5 (some .int) 10 1 6 E [] [.ref x, .int (zI k), .int (zI w), .int (zI f), .int (zI z)] (fun H => PR E x [(x, .inr (11, [.ref (x + 1), .ref (x + 29), .ref (x + 57), .ref (x + 85), .ref (x + 311), .ref (x + 314), .ref (x + 319), .ref (x + 332), .int (zI hs), .int (zI er), .int (zI fa), .int (zI ss)]))] H ∧ PR E (x + 1) (courtW E (x + 1) co) H) "java/lang/IndexOutOfBoundsException" (fun H => True) := by
  refine Tx.start (own := RX9) rfl (by decide +kernel) (Nat.le_of_ble_eq_true rfl) ?_
  intro p e s m below meth cd args Q hQ X tb hlk hM hPr
  obtain ⟨h_cm, h_co⟩ := hPr
  have hb0 := hO.b0
  have hbw := hO.bw
  refine v_aload_n X dX9_testify_0 1 rfl 0 rfl ?_
  refine v_iconst X dX9_testify_1 2 rfl ?_
  refine v_iload_n X dX9_testify_2 3 rfl 1 rfl ?_
  refine v_iload_n X dX9_testify_3 4 rfl 2 rfl ?_
  refine v_iload_n X dX9_testify_4 5 rfl 3 rfl ?_
  refine v_iload X dX9_testify_5 7 rfl 4 rfl ?_
  subst hQ; exact v_txV X tb hlk hM (h_cm.1) (x_X9_change_1 l hl E x co hs er fa ss 2 k w f z hO (by omega) gk gw gz hf) kvX9_change kiX9_change kl_X9_71 (q0 := 0) rfl rfl (As := [.int (zI 2), .int (zI k), .int (zI w), .int (zI f), .int (zI z)]) rfl rfl rfl rfl dX9_testify_7 (fun q hq => hq.elim) ⟨h_cm, h_co⟩ (fun H1 hF hpo => trivial)
set_option maxHeartbeats 4000000 in
set_option maxRecDepth 20000 in
theorem x_X9_testify_2 (l : Launch) (hl : l.stackTraces = false) (E : Nat → Nat → Nat) (x : Nat) (co : Nat → Int → Int) (hs : Int) (er : Int) (fa : Int) (ss : Int) (k : Int) (w : Int) (f : Int) (z : Int) (hO : OkC co) (gk : Rg k) (gw : Rg w) (gz : Rg z) (gf : 0 ≤ f ∧ f ≤ 1) (hf : flC co 2 k w z = 2) : Tx l yX9_testify cX9_testify 5 (some .int) 10 1 6 E [] [.ref x, .int (zI k), .int (zI w), .int (zI f), .int (zI z)] (fun H => PR E x [(x, .inr (11, [.ref (x + 1), .ref (x + 29), .ref (x + 57), .ref (x + 85), .ref (x + 311), .ref (x + 314), .ref (x + 319), .ref (x + 332), .int (zI hs), .int (zI er), .int (zI fa), .int (zI ss)]))] H ∧ PR E (x + 1) (courtW E (x + 1) co) H) "java/lang/IllegalArgumentException" (fun H => True) := by
  refine Tx.start (own := RX9) rfl (by decide +kernel) (Nat.le_of_ble_eq_true rfl) ?_
  intro p e s m below meth cd args Q hQ X tb hlk hM hPr
  obtain ⟨h_cm, h_co⟩ := hPr
  have hb0 := hO.b0
  have hbw := hO.bw
  refine v_aload_n X dX9_testify_0 1 rfl 0 rfl ?_
  refine v_iconst X dX9_testify_1 2 rfl ?_
  refine v_iload_n X dX9_testify_2 3 rfl 1 rfl ?_
  refine v_iload_n X dX9_testify_3 4 rfl 2 rfl ?_
  refine v_iload_n X dX9_testify_4 5 rfl 3 rfl ?_
  refine v_iload X dX9_testify_5 7 rfl 4 rfl ?_
  subst hQ; exact v_txV X tb hlk hM (h_cm.1) (x_X9_change_2 l hl E x co hs er fa ss 2 k w f z hO (by omega) gk gw gz hf) kvX9_change kiX9_change kl_X9_71 (q0 := 0) rfl rfl (As := [.int (zI 2), .int (zI k), .int (zI w), .int (zI f), .int (zI z)]) rfl rfl rfl rfl dX9_testify_7 (fun q hq => hq.elim) ⟨h_cm, h_co⟩ (fun H1 hF hpo => trivial)
set_option maxHeartbeats 4000000 in
set_option maxRecDepth 20000 in
theorem x_X9_testify_4 (l : Launch) (hl : l.stackTraces = false) (E : Nat → Nat → Nat) (x : Nat) (co : Nat → Int → Int) (hs : Int) (er : Int) (fa : Int) (ss : Int) (k : Int) (w : Int) (f : Int) (z : Int) (hO : OkC co) (gk : Rg k) (gw : Rg w) (gz : Rg z) (gf : 0 ≤ f ∧ f ≤ 1) (hf : flC co 2 k w z = 4) : Tx l yX9_testify cX9_testify 5 (some .int) 10 1 6 E [] [.ref x, .int (zI k), .int (zI w), .int (zI f), .int (zI z)] (fun H => PR E x [(x, .inr (11, [.ref (x + 1), .ref (x + 29), .ref (x + 57), .ref (x + 85), .ref (x + 311), .ref (x + 314), .ref (x + 319), .ref (x + 332), .int (zI hs), .int (zI er), .int (zI fa), .int (zI ss)]))] H ∧ PR E (x + 1) (courtW E (x + 1) co) H) "java/lang/IllegalStateException" (fun H => True) := by
  refine Tx.start (own := RX9) rfl (by decide +kernel) (Nat.le_of_ble_eq_true rfl) ?_
  intro p e s m below meth cd args Q hQ X tb hlk hM hPr
  obtain ⟨h_cm, h_co⟩ := hPr
  have hb0 := hO.b0
  have hbw := hO.bw
  refine v_aload_n X dX9_testify_0 1 rfl 0 rfl ?_
  refine v_iconst X dX9_testify_1 2 rfl ?_
  refine v_iload_n X dX9_testify_2 3 rfl 1 rfl ?_
  refine v_iload_n X dX9_testify_3 4 rfl 2 rfl ?_
  refine v_iload_n X dX9_testify_4 5 rfl 3 rfl ?_
  refine v_iload X dX9_testify_5 7 rfl 4 rfl ?_
  subst hQ; exact v_txV X tb hlk hM (h_cm.1) (x_X9_change_4 l hl E x co hs er fa ss 2 k w f z hO (by omega) gk gw gz hf) kvX9_change kiX9_change kl_X9_71 (q0 := 0) rfl rfl (As := [.int (zI 2), .int (zI k), .int (zI w), .int (zI f), .int (zI z)]) rfl rfl rfl rfl dX9_testify_7 (fun q hq => hq.elim) ⟨h_cm, h_co⟩ (fun H1 hF hpo => trivial)
set_option maxHeartbeats 4000000 in
set_option maxRecDepth 20000 in
theorem c_X9_question (l : Launch) (E : Nat → Nat → Nat) (x : Nat) (co : Nat → Int → Int) (hs : Int) (er : Int) (fa : Int) (ss : Int) (k : Int) (w : Int) (f : Int) (hc : Nat → Nat → Int → Int) (nx : Int) (sz : Int) (hO : OkC co) (gk : Rg k) (gw : Rg w) (gf : 0 ≤ f ∧ f ≤ 1) (hf : flC co 3 k w 0 = 0) (n0 : 0 ≤ nx) (n1 : nx < 8) (s0 : 0 ≤ sz) (s1 : sz ≤ 8) (hd_cm_co : x + 1 ≤ x + 1 ∨ x + 1 + 28 ≤ x) (hd_cm_hi : x + 1 ≤ x + 85 ∨ x + 85 + 2 ≤ x) (hd_cm_hf : x + 1 ≤ x + 87 ∨ x + 87 + 224 ≤ x) (hd_co_hi : x + 1 + 28 ≤ x + 85 ∨ x + 85 + 2 ≤ x + 1) (hd_co_hf : x + 1 + 28 ≤ x + 87 ∨ x + 87 + 224 ≤ x + 1) (hd_hi_hf : x + 85 + 2 ≤ x + 87 ∨ x + 87 + 224 ≤ x + 85) : Mu l yX9_question cX9_question 4 (some .int) 10 0 0 E [(x + 1, 28), (x + 85, 2), (x + 87, 224)] [.ref x, .int (zI k), .int (zI w), .int (zI f)] (fun H => PR E x [(x, .inr (11, [.ref (x + 1), .ref (x + 29), .ref (x + 57), .ref (x + 85), .ref (x + 311), .ref (x + 314), .ref (x + 319), .ref (x + 332), .int (zI hs), .int (zI er), .int (zI fa), .int (zI ss)]))] H ∧ PR E (x + 1) (courtW E (x + 1) co) H ∧ PR E (x + 85) [(x + 85, .inr (7, [.ref (x + 86), .int (zI nx), .int (zI sz)])), (x + 86, .inl (E 102 3, 8, .inr (.inr (.inr (.inr (hisA (x + 87) 8))))))] H ∧ HF E (x + 87) 8 hc H) (fun rv H => rv = some (.int (zI (opV co 3 k w f 0))) ∧ PR E (x + 1) (courtW E (x + 1) (opC co 3 k w f 0)) H ∧ PR E (x + 85) [(x + 85, .inr (7, [.ref (x + 86), .int (zI (if nx < 7 then nx + 1 else 0)), .int (zI (min (sz + 1) 8))])), (x + 86, .inl (E 102 3, 8, .inr (.inr (.inr (.inr (hisA (x + 87) 8))))))] H ∧ HF E (x + 87) 8 (fun j => if j = nx.toNat then co else hc j) H) := by
  refine Mu.start (own := RX9) rfl (by decide +kernel) (Nat.le_of_ble_eq_true rfl) ?_
  intro p e s m below meth cd args Q hQ X hr hlk hnm hM hPr
  obtain ⟨h_cm, h_co, h_hi, h_hf⟩ := hPr
  have hb0 := hO.b0
  have hbw := hO.bw
  refine v_aload_n X dX9_question_0 1 rfl 0 rfl ?_
  refine v_iconst X dX9_question_1 2 rfl ?_
  refine v_iload_n X dX9_question_2 3 rfl 1 rfl ?_
  refine v_iload_n X dX9_question_3 4 rfl 2 rfl ?_
  refine v_iload_n X dX9_question_4 5 rfl 3 rfl ?_
  refine v_iconst X dX9_question_5 6 rfl ?_
  refine v_muV X hM (h_cm.1) (c_X9_change l E x co hs er fa ss 3 k w f 0 hc nx sz hO (by omega) gk gw (by omega) gf hf n0 n1 s0 s1 hd_cm_co hd_cm_hi hd_cm_hf hd_co_hi hd_co_hf hd_hi_hf) kvX9_change kiX9_change kl_X9_71 (q0 := 0) rfl rfl (As := [.int (zI 3), .int (zI k), .int (zI w), .int (zI f), .int (zI 0)]) rfl rfl rfl dX9_question_6 9 rfl (k' := 0) (n' := 0) rfl rfl (by intro q hq; simp only [Fr, Fs, or_false, false_or] at hq ⊢; omega) ⟨h_cm, h_co, h_hi, h_hf⟩ (fun rv H1 lo1 hM hF hpo => ?_)
  obtain ⟨rfl, hw_0, hw_1, hw_2⟩ := hpo
  have h_co : PR E (x + 1) (courtW E (x + 1) (opC co 3 k w f 0)) H1 := hw_0
  have h_hi : PR E (x + 85) [(x + 85, .inr (7, [.ref (x + 86), .int (zI (if nx < 7 then nx + 1 else 0)), .int (zI (min (sz + 1) 8))])), (x + 86, .inl (E 102 3, 8, .inr (.inr (.inr (.inr (hisA (x + 87) 8))))))] H1 := hw_1
  have h_hf : HF E (x + 87) 8 (fun j => if j = nx.toNat then co else hc j) H1 := hw_2
  replace h_cm := h_cm.kept hF 1 rfl (by intro q q1 q2 q3; simp only [Fs, or_false] at q3; omega)
  show V p l e (rmL 10 0 0) s m args below meth cd Q 4 H1 lo1 0 0 9 [(0, .ref x), (1, .int (zI k)), (2, .int (zI w)), (3, .int (zI f))] [.int (zI (opV co 3 k w f 0))]
  have hb_2 := hO.b3 k
  subst hQ; exact m_iret X hr hlk hM dX9_question_9 rfl ⟨rfl, h_co, h_hi, h_hf⟩
set_option maxHeartbeats 4000000 in
set_option maxRecDepth 20000 in
theorem x_X9_question_1 (l : Launch) (hl : l.stackTraces = false) (E : Nat → Nat → Nat) (x : Nat) (co : Nat → Int → Int) (hs : Int) (er : Int) (fa : Int) (ss : Int) (k : Int) (w : Int) (f : Int) (hO : OkC co) (gk : Rg k) (gw : Rg w) (gf : 0 ≤ f ∧ f ≤ 1) (hf : flC co 3 k w 0 = 1) : Tx l yX9_question cX9_question 4 (some .int) 10 1 6 E [] [.ref x, .int (zI k), .int (zI w), .int (zI f)] (fun H => PR E x [(x, .inr (11, [.ref (x + 1), .ref (x + 29), .ref (x + 57), .ref (x + 85), .ref (x + 311), .ref (x + 314), .ref (x + 319), .ref (x + 332), .int (zI hs), .int (zI er), .int (zI fa), .int (zI ss)]))] H ∧ PR E (x + 1) (courtW E (x + 1) co) H) "java/lang/IndexOutOfBoundsException" (fun H => True) := by
  refine Tx.start (own := RX9) rfl (by decide +kernel) (Nat.le_of_ble_eq_true rfl) ?_
  intro p e s m below meth cd args Q hQ X tb hlk hM hPr
  obtain ⟨h_cm, h_co⟩ := hPr
  have hb0 := hO.b0
  have hbw := hO.bw
  refine v_aload_n X dX9_question_0 1 rfl 0 rfl ?_
  refine v_iconst X dX9_question_1 2 rfl ?_
  refine v_iload_n X dX9_question_2 3 rfl 1 rfl ?_
  refine v_iload_n X dX9_question_3 4 rfl 2 rfl ?_
  refine v_iload_n X dX9_question_4 5 rfl 3 rfl ?_
  refine v_iconst X dX9_question_5 6 rfl ?_
  subst hQ; exact v_txV X tb hlk hM (h_cm.1) (x_X9_change_1 l hl E x co hs er fa ss 3 k w f 0 hO (by omega) gk gw (by omega) hf) kvX9_change kiX9_change kl_X9_71 (q0 := 0) rfl rfl (As := [.int (zI 3), .int (zI k), .int (zI w), .int (zI f), .int (zI 0)]) rfl rfl rfl rfl dX9_question_6 (fun q hq => hq.elim) ⟨h_cm, h_co⟩ (fun H1 hF hpo => trivial)
set_option maxHeartbeats 4000000 in
set_option maxRecDepth 20000 in
theorem x_X9_question_3 (l : Launch) (hl : l.stackTraces = false) (E : Nat → Nat → Nat) (x : Nat) (co : Nat → Int → Int) (hs : Int) (er : Int) (fa : Int) (ss : Int) (k : Int) (w : Int) (f : Int) (hO : OkC co) (gk : Rg k) (gw : Rg w) (gf : 0 ≤ f ∧ f ≤ 1) (hf : flC co 3 k w 0 = 3) : Tx l yX9_question cX9_question 4 (some .int) 10 1 6 E [] [.ref x, .int (zI k), .int (zI w), .int (zI f)] (fun H => PR E x [(x, .inr (11, [.ref (x + 1), .ref (x + 29), .ref (x + 57), .ref (x + 85), .ref (x + 311), .ref (x + 314), .ref (x + 319), .ref (x + 332), .int (zI hs), .int (zI er), .int (zI fa), .int (zI ss)]))] H ∧ PR E (x + 1) (courtW E (x + 1) co) H) "java/util/NoSuchElementException" (fun H => True) := by
  refine Tx.start (own := RX9) rfl (by decide +kernel) (Nat.le_of_ble_eq_true rfl) ?_
  intro p e s m below meth cd args Q hQ X tb hlk hM hPr
  obtain ⟨h_cm, h_co⟩ := hPr
  have hb0 := hO.b0
  have hbw := hO.bw
  refine v_aload_n X dX9_question_0 1 rfl 0 rfl ?_
  refine v_iconst X dX9_question_1 2 rfl ?_
  refine v_iload_n X dX9_question_2 3 rfl 1 rfl ?_
  refine v_iload_n X dX9_question_3 4 rfl 2 rfl ?_
  refine v_iload_n X dX9_question_4 5 rfl 3 rfl ?_
  refine v_iconst X dX9_question_5 6 rfl ?_
  subst hQ; exact v_txV X tb hlk hM (h_cm.1) (x_X9_change_3 l hl E x co hs er fa ss 3 k w f 0 hO (by omega) gk gw (by omega) hf) kvX9_change kiX9_change kl_X9_71 (q0 := 0) rfl rfl (As := [.int (zI 3), .int (zI k), .int (zI w), .int (zI f), .int (zI 0)]) rfl rfl rfl rfl dX9_question_6 (fun q hq => hq.elim) ⟨h_cm, h_co⟩ (fun H1 hF hpo => trivial)
set_option maxHeartbeats 4000000 in
set_option maxRecDepth 20000 in
theorem x_X9_question_4 (l : Launch) (hl : l.stackTraces = false) (E : Nat → Nat → Nat) (x : Nat) (co : Nat → Int → Int) (hs : Int) (er : Int) (fa : Int) (ss : Int) (k : Int) (w : Int) (f : Int) (hO : OkC co) (gk : Rg k) (gw : Rg w) (gf : 0 ≤ f ∧ f ≤ 1) (hf : flC co 3 k w 0 = 4) : Tx l yX9_question cX9_question 4 (some .int) 10 1 6 E [] [.ref x, .int (zI k), .int (zI w), .int (zI f)] (fun H => PR E x [(x, .inr (11, [.ref (x + 1), .ref (x + 29), .ref (x + 57), .ref (x + 85), .ref (x + 311), .ref (x + 314), .ref (x + 319), .ref (x + 332), .int (zI hs), .int (zI er), .int (zI fa), .int (zI ss)]))] H ∧ PR E (x + 1) (courtW E (x + 1) co) H) "java/lang/IllegalStateException" (fun H => True) := by
  refine Tx.start (own := RX9) rfl (by decide +kernel) (Nat.le_of_ble_eq_true rfl) ?_
  intro p e s m below meth cd args Q hQ X tb hlk hM hPr
  obtain ⟨h_cm, h_co⟩ := hPr
  have hb0 := hO.b0
  have hbw := hO.bw
  refine v_aload_n X dX9_question_0 1 rfl 0 rfl ?_
  refine v_iconst X dX9_question_1 2 rfl ?_
  refine v_iload_n X dX9_question_2 3 rfl 1 rfl ?_
  refine v_iload_n X dX9_question_3 4 rfl 2 rfl ?_
  refine v_iload_n X dX9_question_4 5 rfl 3 rfl ?_
  refine v_iconst X dX9_question_5 6 rfl ?_
  subst hQ; exact v_txV X tb hlk hM (h_cm.1) (x_X9_change_4 l hl E x co hs er fa ss 3 k w f 0 hO (by omega) gk gw (by omega) hf) kvX9_change kiX9_change kl_X9_71 (q0 := 0) rfl rfl (As := [.int (zI 3), .int (zI k), .int (zI w), .int (zI f), .int (zI 0)]) rfl rfl rfl rfl dX9_question_6 (fun q hq => hq.elim) ⟨h_cm, h_co⟩ (fun H1 hF hpo => trivial)
set_option maxHeartbeats 4000000 in
set_option maxRecDepth 20000 in
theorem c_X9_decide (l : Launch) (E : Nat → Nat → Nat) (x : Nat) (co : Nat → Int → Int) (hs : Int) (er : Int) (fa : Int) (ss : Int) (k : Int) (hc : Nat → Nat → Int → Int) (nx : Int) (sz : Int) (hO : OkC co) (gk : Rg k) (hf : flC co 4 k 0 0 = 0) (n0 : 0 ≤ nx) (n1 : nx < 8) (s0 : 0 ≤ sz) (s1 : sz ≤ 8) (hd_cm_co : x + 1 ≤ x + 1 ∨ x + 1 + 28 ≤ x) (hd_cm_hi : x + 1 ≤ x + 85 ∨ x + 85 + 2 ≤ x) (hd_cm_hf : x + 1 ≤ x + 87 ∨ x + 87 + 224 ≤ x) (hd_co_hi : x + 1 + 28 ≤ x + 85 ∨ x + 85 + 2 ≤ x + 1) (hd_co_hf : x + 1 + 28 ≤ x + 87 ∨ x + 87 + 224 ≤ x + 1) (hd_hi_hf : x + 85 + 2 ≤ x + 87 ∨ x + 87 + 224 ≤ x + 85) : Mu l yX9_decide cX9_decide 2 (some .boolean) 10 0 0 E [(x + 1, 28), (x + 85, 2), (x + 87, 224)] [.ref x, .int (zI k)] (fun H => PR E x [(x, .inr (11, [.ref (x + 1), .ref (x + 29), .ref (x + 57), .ref (x + 85), .ref (x + 311), .ref (x + 314), .ref (x + 319), .ref (x + 332), .int (zI hs), .int (zI er), .int (zI fa), .int (zI ss)]))] H ∧ PR E (x + 1) (courtW E (x + 1) co) H ∧ PR E (x + 85) [(x + 85, .inr (7, [.ref (x + 86), .int (zI nx), .int (zI sz)])), (x + 86, .inl (E 102 3, 8, .inr (.inr (.inr (.inr (hisA (x + 87) 8))))))] H ∧ HF E (x + 87) 8 hc H) (fun rv H => rv = some (.int (zI (bz (¬ opV co 4 k 0 0 0 = 0)))) ∧ PR E (x + 1) (courtW E (x + 1) (opC co 4 k 0 0 0)) H ∧ PR E (x + 85) [(x + 85, .inr (7, [.ref (x + 86), .int (zI (if nx < 7 then nx + 1 else 0)), .int (zI (min (sz + 1) 8))])), (x + 86, .inl (E 102 3, 8, .inr (.inr (.inr (.inr (hisA (x + 87) 8))))))] H ∧ HF E (x + 87) 8 (fun j => if j = nx.toNat then co else hc j) H) := by
  refine Mu.start (own := RX9) rfl (by decide +kernel) (Nat.le_of_ble_eq_true rfl) ?_
  intro p e s m below meth cd args Q hQ X hr hlk hnm hM hPr
  obtain ⟨h_cm, h_co, h_hi, h_hf⟩ := hPr
  have hb0 := hO.b0
  have hbw := hO.bw
  have hov := opV4_b co k 0 0 0
  refine v_aload_n X dX9_decide_0 1 rfl 0 rfl ?_
  refine v_iconst X dX9_decide_1 2 rfl ?_
  refine v_iload_n X dX9_decide_2 3 rfl 1 rfl ?_
  refine v_iconst X dX9_decide_3 4 rfl ?_
  refine v_iconst X dX9_decide_4 5 rfl ?_
  refine v_iconst X dX9_decide_5 6 rfl ?_
  refine v_muV X hM (h_cm.1) (c_X9_change l E x co hs er fa ss 4 k 0 0 0 hc nx sz hO (by omega) gk (by omega) (by omega) (by omega) hf n0 n1 s0 s1 hd_cm_co hd_cm_hi hd_cm_hf hd_co_hi hd_co_hf hd_hi_hf) kvX9_change kiX9_change kl_X9_71 (q0 := 0) rfl rfl (As := [.int (zI 4), .int (zI k), .int (zI 0), .int (zI 0), .int (zI 0)]) rfl rfl rfl dX9_decide_6 9 rfl (k' := 0) (n' := 0) rfl rfl (by intro q hq; simp only [Fr, Fs, or_false, false_or] at hq ⊢; omega) ⟨h_cm, h_co, h_hi, h_hf⟩ (fun rv H1 lo1 hM hF hpo => ?_)
  obtain ⟨rfl, hw_0, hw_1, hw_2⟩ := hpo
  have h_co : PR E (x + 1) (courtW E (x + 1) (opC co 4 k 0 0 0)) H1 := hw_0
  have h_hi : PR E (x + 85) [(x + 85, .inr (7, [.ref (x + 86), .int (zI (if nx < 7 then nx + 1 else 0)), .int (zI (min (sz + 1) 8))])), (x + 86, .inl (E 102 3, 8, .inr (.inr (.inr (.inr (hisA (x + 87) 8))))))] H1 := hw_1
  have h_hf : HF E (x + 87) 8 (fun j => if j = nx.toNat then co else hc j) H1 := hw_2
  replace h_cm := h_cm.kept hF 1 rfl (by intro q q1 q2 q3; simp only [Fs, or_false] at q3; omega)
  show V p l e (rmL 10 0 0) s m args below meth cd Q 2 H1 lo1 0 0 9 [(0, .ref x), (1, .int (zI k))] [.int (zI (opV co 4 k 0 0 0))]
  have hb_2 := hO.b4 k
  refine v_if_eq X (by omega) dX9_decide_9 12 16 rfl (by decide) (fun c_3 => ?_) (fun c_3 => ?_)
  · skip
    refine v_iconst X dX9_decide_16 17 rfl ?_
    subst hQ; exact m_zret X hr hlk hM dX9_decide_17 rfl (by omega) ⟨(sv (bz_f (by omega))), h_co, h_hi, h_hf⟩
  · skip
    refine v_iconst X dX9_decide_12 13 rfl ?_
    refine v_goto X dX9_decide_13 17 (by decide) ?_
    subst hQ; exact m_zret X hr hlk hM dX9_decide_17 rfl (by omega) ⟨(sv (bz_t (by omega))), h_co, h_hi, h_hf⟩
set_option maxHeartbeats 4000000 in
set_option maxRecDepth 20000 in
theorem x_X9_decide_1 (l : Launch) (hl : l.stackTraces = false) (E : Nat → Nat → Nat) (x : Nat) (co : Nat → Int → Int) (hs : Int) (er : Int) (fa : Int) (ss : Int) (k : Int) (hO : OkC co) (gk : Rg k) (hf : flC co 4 k 0 0 = 1) : Tx l yX9_decide cX9_decide 2 (some .boolean) 10 1 6 E [] [.ref x, .int (zI k)] (fun H => PR E x [(x, .inr (11, [.ref (x + 1), .ref (x + 29), .ref (x + 57), .ref (x + 85), .ref (x + 311), .ref (x + 314), .ref (x + 319), .ref (x + 332), .int (zI hs), .int (zI er), .int (zI fa), .int (zI ss)]))] H ∧ PR E (x + 1) (courtW E (x + 1) co) H) "java/lang/IndexOutOfBoundsException" (fun H => True) := by
  refine Tx.start (own := RX9) rfl (by decide +kernel) (Nat.le_of_ble_eq_true rfl) ?_
  intro p e s m below meth cd args Q hQ X tb hlk hM hPr
  obtain ⟨h_cm, h_co⟩ := hPr
  have hb0 := hO.b0
  have hbw := hO.bw
  refine v_aload_n X dX9_decide_0 1 rfl 0 rfl ?_
  refine v_iconst X dX9_decide_1 2 rfl ?_
  refine v_iload_n X dX9_decide_2 3 rfl 1 rfl ?_
  refine v_iconst X dX9_decide_3 4 rfl ?_
  refine v_iconst X dX9_decide_4 5 rfl ?_
  refine v_iconst X dX9_decide_5 6 rfl ?_
  subst hQ; exact v_txV X tb hlk hM (h_cm.1) (x_X9_change_1 l hl E x co hs er fa ss 4 k 0 0 0 hO (by omega) gk (by omega) (by omega) hf) kvX9_change kiX9_change kl_X9_71 (q0 := 0) rfl rfl (As := [.int (zI 4), .int (zI k), .int (zI 0), .int (zI 0), .int (zI 0)]) rfl rfl rfl rfl dX9_decide_6 (fun q hq => hq.elim) ⟨h_cm, h_co⟩ (fun H1 hF hpo => trivial)
set_option maxHeartbeats 4000000 in
set_option maxRecDepth 20000 in
theorem x_X9_decide_4 (l : Launch) (hl : l.stackTraces = false) (E : Nat → Nat → Nat) (x : Nat) (co : Nat → Int → Int) (hs : Int) (er : Int) (fa : Int) (ss : Int) (k : Int) (hO : OkC co) (gk : Rg k) (hf : flC co 4 k 0 0 = 4) : Tx l yX9_decide cX9_decide 2 (some .boolean) 10 1 6 E [] [.ref x, .int (zI k)] (fun H => PR E x [(x, .inr (11, [.ref (x + 1), .ref (x + 29), .ref (x + 57), .ref (x + 85), .ref (x + 311), .ref (x + 314), .ref (x + 319), .ref (x + 332), .int (zI hs), .int (zI er), .int (zI fa), .int (zI ss)]))] H ∧ PR E (x + 1) (courtW E (x + 1) co) H) "java/lang/IllegalStateException" (fun H => True) := by
  refine Tx.start (own := RX9) rfl (by decide +kernel) (Nat.le_of_ble_eq_true rfl) ?_
  intro p e s m below meth cd args Q hQ X tb hlk hM hPr
  obtain ⟨h_cm, h_co⟩ := hPr
  have hb0 := hO.b0
  have hbw := hO.bw
  refine v_aload_n X dX9_decide_0 1 rfl 0 rfl ?_
  refine v_iconst X dX9_decide_1 2 rfl ?_
  refine v_iload_n X dX9_decide_2 3 rfl 1 rfl ?_
  refine v_iconst X dX9_decide_3 4 rfl ?_
  refine v_iconst X dX9_decide_4 5 rfl ?_
  refine v_iconst X dX9_decide_5 6 rfl ?_
  subst hQ; exact v_txV X tb hlk hM (h_cm.1) (x_X9_change_4 l hl E x co hs er fa ss 4 k 0 0 0 hO (by omega) gk (by omega) (by omega) hf) kvX9_change kiX9_change kl_X9_71 (q0 := 0) rfl rfl (As := [.int (zI 4), .int (zI k), .int (zI 0), .int (zI 0), .int (zI 0)]) rfl rfl rfl rfl dX9_decide_6 (fun q hq => hq.elim) ⟨h_cm, h_co⟩ (fun H1 hF hpo => trivial)
set_option maxHeartbeats 4000000 in
set_option maxRecDepth 20000 in
theorem c_X9_appeal (l : Launch) (E : Nat → Nat → Nat) (x : Nat) (co : Nat → Int → Int) (hs : Int) (er : Int) (fa : Int) (ss : Int) (k : Int) (hc : Nat → Nat → Int → Int) (nx : Int) (sz : Int) (hO : OkC co) (gk : Rg k) (hf : flC co 5 k 0 0 = 0) (n0 : 0 ≤ nx) (n1 : nx < 8) (s0 : 0 ≤ sz) (s1 : sz ≤ 8) (hd_cm_co : x + 1 ≤ x + 1 ∨ x + 1 + 28 ≤ x) (hd_cm_hi : x + 1 ≤ x + 85 ∨ x + 85 + 2 ≤ x) (hd_cm_hf : x + 1 ≤ x + 87 ∨ x + 87 + 224 ≤ x) (hd_co_hi : x + 1 + 28 ≤ x + 85 ∨ x + 85 + 2 ≤ x + 1) (hd_co_hf : x + 1 + 28 ≤ x + 87 ∨ x + 87 + 224 ≤ x + 1) (hd_hi_hf : x + 85 + 2 ≤ x + 87 ∨ x + 87 + 224 ≤ x + 85) : Mu l yX9_appeal cX9_appeal 2 (some .int) 10 0 0 E [(x + 1, 28), (x + 85, 2), (x + 87, 224)] [.ref x, .int (zI k)] (fun H => PR E x [(x, .inr (11, [.ref (x + 1), .ref (x + 29), .ref (x + 57), .ref (x + 85), .ref (x + 311), .ref (x + 314), .ref (x + 319), .ref (x + 332), .int (zI hs), .int (zI er), .int (zI fa), .int (zI ss)]))] H ∧ PR E (x + 1) (courtW E (x + 1) co) H ∧ PR E (x + 85) [(x + 85, .inr (7, [.ref (x + 86), .int (zI nx), .int (zI sz)])), (x + 86, .inl (E 102 3, 8, .inr (.inr (.inr (.inr (hisA (x + 87) 8))))))] H ∧ HF E (x + 87) 8 hc H) (fun rv H => rv = some (.int (zI (opV co 5 k 0 0 0))) ∧ PR E (x + 1) (courtW E (x + 1) (opC co 5 k 0 0 0)) H ∧ PR E (x + 85) [(x + 85, .inr (7, [.ref (x + 86), .int (zI (if nx < 7 then nx + 1 else 0)), .int (zI (min (sz + 1) 8))])), (x + 86, .inl (E 102 3, 8, .inr (.inr (.inr (.inr (hisA (x + 87) 8))))))] H ∧ HF E (x + 87) 8 (fun j => if j = nx.toNat then co else hc j) H) := by
  refine Mu.start (own := RX9) rfl (by decide +kernel) (Nat.le_of_ble_eq_true rfl) ?_
  intro p e s m below meth cd args Q hQ X hr hlk hnm hM hPr
  obtain ⟨h_cm, h_co, h_hi, h_hf⟩ := hPr
  have hb0 := hO.b0
  have hbw := hO.bw
  refine v_aload_n X dX9_appeal_0 1 rfl 0 rfl ?_
  refine v_iconst X dX9_appeal_1 2 rfl ?_
  refine v_iload_n X dX9_appeal_2 3 rfl 1 rfl ?_
  refine v_iconst X dX9_appeal_3 4 rfl ?_
  refine v_iconst X dX9_appeal_4 5 rfl ?_
  refine v_iconst X dX9_appeal_5 6 rfl ?_
  refine v_muV X hM (h_cm.1) (c_X9_change l E x co hs er fa ss 5 k 0 0 0 hc nx sz hO (by omega) gk (by omega) (by omega) (by omega) hf n0 n1 s0 s1 hd_cm_co hd_cm_hi hd_cm_hf hd_co_hi hd_co_hf hd_hi_hf) kvX9_change kiX9_change kl_X9_71 (q0 := 0) rfl rfl (As := [.int (zI 5), .int (zI k), .int (zI 0), .int (zI 0), .int (zI 0)]) rfl rfl rfl dX9_appeal_6 9 rfl (k' := 0) (n' := 0) rfl rfl (by intro q hq; simp only [Fr, Fs, or_false, false_or] at hq ⊢; omega) ⟨h_cm, h_co, h_hi, h_hf⟩ (fun rv H1 lo1 hM hF hpo => ?_)
  obtain ⟨rfl, hw_0, hw_1, hw_2⟩ := hpo
  have h_co : PR E (x + 1) (courtW E (x + 1) (opC co 5 k 0 0 0)) H1 := hw_0
  have h_hi : PR E (x + 85) [(x + 85, .inr (7, [.ref (x + 86), .int (zI (if nx < 7 then nx + 1 else 0)), .int (zI (min (sz + 1) 8))])), (x + 86, .inl (E 102 3, 8, .inr (.inr (.inr (.inr (hisA (x + 87) 8))))))] H1 := hw_1
  have h_hf : HF E (x + 87) 8 (fun j => if j = nx.toNat then co else hc j) H1 := hw_2
  replace h_cm := h_cm.kept hF 1 rfl (by intro q q1 q2 q3; simp only [Fs, or_false] at q3; omega)
  show V p l e (rmL 10 0 0) s m args below meth cd Q 2 H1 lo1 0 0 9 [(0, .ref x), (1, .int (zI k))] [.int (zI (opV co 5 k 0 0 0))]
  have hb_2 := hO.b5 k
  subst hQ; exact m_iret X hr hlk hM dX9_appeal_9 rfl ⟨rfl, h_co, h_hi, h_hf⟩
set_option maxHeartbeats 4000000 in
set_option maxRecDepth 20000 in
theorem x_X9_appeal_1 (l : Launch) (hl : l.stackTraces = false) (E : Nat → Nat → Nat) (x : Nat) (co : Nat → Int → Int) (hs : Int) (er : Int) (fa : Int) (ss : Int) (k : Int) (hO : OkC co) (gk : Rg k) (hf : flC co 5 k 0 0 = 1) : Tx l yX9_appeal cX9_appeal 2 (some .int) 10 1 6 E [] [.ref x, .int (zI k)] (fun H => PR E x [(x, .inr (11, [.ref (x + 1), .ref (x + 29), .ref (x + 57), .ref (x + 85), .ref (x + 311), .ref (x + 314), .ref (x + 319), .ref (x + 332), .int (zI hs), .int (zI er), .int (zI fa), .int (zI ss)]))] H ∧ PR E (x + 1) (courtW E (x + 1) co) H) "java/lang/IndexOutOfBoundsException" (fun H => True) := by
  refine Tx.start (own := RX9) rfl (by decide +kernel) (Nat.le_of_ble_eq_true rfl) ?_
  intro p e s m below meth cd args Q hQ X tb hlk hM hPr
  obtain ⟨h_cm, h_co⟩ := hPr
  have hb0 := hO.b0
  have hbw := hO.bw
  refine v_aload_n X dX9_appeal_0 1 rfl 0 rfl ?_
  refine v_iconst X dX9_appeal_1 2 rfl ?_
  refine v_iload_n X dX9_appeal_2 3 rfl 1 rfl ?_
  refine v_iconst X dX9_appeal_3 4 rfl ?_
  refine v_iconst X dX9_appeal_4 5 rfl ?_
  refine v_iconst X dX9_appeal_5 6 rfl ?_
  subst hQ; exact v_txV X tb hlk hM (h_cm.1) (x_X9_change_1 l hl E x co hs er fa ss 5 k 0 0 0 hO (by omega) gk (by omega) (by omega) hf) kvX9_change kiX9_change kl_X9_71 (q0 := 0) rfl rfl (As := [.int (zI 5), .int (zI k), .int (zI 0), .int (zI 0), .int (zI 0)]) rfl rfl rfl rfl dX9_appeal_6 (fun q hq => hq.elim) ⟨h_cm, h_co⟩ (fun H1 hF hpo => trivial)
set_option maxHeartbeats 4000000 in
set_option maxRecDepth 20000 in
theorem x_X9_appeal_4 (l : Launch) (hl : l.stackTraces = false) (E : Nat → Nat → Nat) (x : Nat) (co : Nat → Int → Int) (hs : Int) (er : Int) (fa : Int) (ss : Int) (k : Int) (hO : OkC co) (gk : Rg k) (hf : flC co 5 k 0 0 = 4) : Tx l yX9_appeal cX9_appeal 2 (some .int) 10 1 6 E [] [.ref x, .int (zI k)] (fun H => PR E x [(x, .inr (11, [.ref (x + 1), .ref (x + 29), .ref (x + 57), .ref (x + 85), .ref (x + 311), .ref (x + 314), .ref (x + 319), .ref (x + 332), .int (zI hs), .int (zI er), .int (zI fa), .int (zI ss)]))] H ∧ PR E (x + 1) (courtW E (x + 1) co) H) "java/lang/IllegalStateException" (fun H => True) := by
  refine Tx.start (own := RX9) rfl (by decide +kernel) (Nat.le_of_ble_eq_true rfl) ?_
  intro p e s m below meth cd args Q hQ X tb hlk hM hPr
  obtain ⟨h_cm, h_co⟩ := hPr
  have hb0 := hO.b0
  have hbw := hO.bw
  refine v_aload_n X dX9_appeal_0 1 rfl 0 rfl ?_
  refine v_iconst X dX9_appeal_1 2 rfl ?_
  refine v_iload_n X dX9_appeal_2 3 rfl 1 rfl ?_
  refine v_iconst X dX9_appeal_3 4 rfl ?_
  refine v_iconst X dX9_appeal_4 5 rfl ?_
  refine v_iconst X dX9_appeal_5 6 rfl ?_
  subst hQ; exact v_txV X tb hlk hM (h_cm.1) (x_X9_change_4 l hl E x co hs er fa ss 5 k 0 0 0 hO (by omega) gk (by omega) (by omega) hf) kvX9_change kiX9_change kl_X9_71 (q0 := 0) rfl rfl (As := [.int (zI 5), .int (zI k), .int (zI 0), .int (zI 0), .int (zI 0)]) rfl rfl rfl rfl dX9_appeal_6 (fun q hq => hq.elim) ⟨h_cm, h_co⟩ (fun H1 hF hpo => trivial)
set_option maxHeartbeats 4000000 in
set_option maxRecDepth 20000 in
theorem c_X9_close (l : Launch) (E : Nat → Nat → Nat) (x : Nat) (co : Nat → Int → Int) (hs : Int) (er : Int) (fa : Int) (ss : Int) (k : Int) (hc : Nat → Nat → Int → Int) (nx : Int) (sz : Int) (hO : OkC co) (gk : Rg k) (hf : flC co 6 k 0 0 = 0) (n0 : 0 ≤ nx) (n1 : nx < 8) (s0 : 0 ≤ sz) (s1 : sz ≤ 8) (hd_cm_co : x + 1 ≤ x + 1 ∨ x + 1 + 28 ≤ x) (hd_cm_hi : x + 1 ≤ x + 85 ∨ x + 85 + 2 ≤ x) (hd_cm_hf : x + 1 ≤ x + 87 ∨ x + 87 + 224 ≤ x) (hd_co_hi : x + 1 + 28 ≤ x + 85 ∨ x + 85 + 2 ≤ x + 1) (hd_co_hf : x + 1 + 28 ≤ x + 87 ∨ x + 87 + 224 ≤ x + 1) (hd_hi_hf : x + 85 + 2 ≤ x + 87 ∨ x + 87 + 224 ≤ x + 85) : Mu l yX9_close cX9_close 2 (some .int) 10 0 0 E [(x + 1, 28), (x + 85, 2), (x + 87, 224)] [.ref x, .int (zI k)] (fun H => PR E x [(x, .inr (11, [.ref (x + 1), .ref (x + 29), .ref (x + 57), .ref (x + 85), .ref (x + 311), .ref (x + 314), .ref (x + 319), .ref (x + 332), .int (zI hs), .int (zI er), .int (zI fa), .int (zI ss)]))] H ∧ PR E (x + 1) (courtW E (x + 1) co) H ∧ PR E (x + 85) [(x + 85, .inr (7, [.ref (x + 86), .int (zI nx), .int (zI sz)])), (x + 86, .inl (E 102 3, 8, .inr (.inr (.inr (.inr (hisA (x + 87) 8))))))] H ∧ HF E (x + 87) 8 hc H) (fun rv H => rv = some (.int (zI (opV co 6 k 0 0 0))) ∧ PR E (x + 1) (courtW E (x + 1) (opC co 6 k 0 0 0)) H ∧ PR E (x + 85) [(x + 85, .inr (7, [.ref (x + 86), .int (zI (if nx < 7 then nx + 1 else 0)), .int (zI (min (sz + 1) 8))])), (x + 86, .inl (E 102 3, 8, .inr (.inr (.inr (.inr (hisA (x + 87) 8))))))] H ∧ HF E (x + 87) 8 (fun j => if j = nx.toNat then co else hc j) H) := by
  refine Mu.start (own := RX9) rfl (by decide +kernel) (Nat.le_of_ble_eq_true rfl) ?_
  intro p e s m below meth cd args Q hQ X hr hlk hnm hM hPr
  obtain ⟨h_cm, h_co, h_hi, h_hf⟩ := hPr
  have hb0 := hO.b0
  have hbw := hO.bw
  refine v_aload_n X dX9_close_0 1 rfl 0 rfl ?_
  refine v_bipush X dX9_close_1 3 rfl rfl ?_
  refine v_iload_n X dX9_close_3 4 rfl 1 rfl ?_
  refine v_iconst X dX9_close_4 5 rfl ?_
  refine v_iconst X dX9_close_5 6 rfl ?_
  refine v_iconst X dX9_close_6 7 rfl ?_
  refine v_muV X hM (h_cm.1) (c_X9_change l E x co hs er fa ss 6 k 0 0 0 hc nx sz hO (by omega) gk (by omega) (by omega) (by omega) hf n0 n1 s0 s1 hd_cm_co hd_cm_hi hd_cm_hf hd_co_hi hd_co_hf hd_hi_hf) kvX9_change kiX9_change kl_X9_71 (q0 := 0) rfl rfl (As := [.int (zI 6), .int (zI k), .int (zI 0), .int (zI 0), .int (zI 0)]) rfl rfl rfl dX9_close_7 10 rfl (k' := 0) (n' := 0) rfl rfl (by intro q hq; simp only [Fr, Fs, or_false, false_or] at hq ⊢; omega) ⟨h_cm, h_co, h_hi, h_hf⟩ (fun rv H1 lo1 hM hF hpo => ?_)
  obtain ⟨rfl, hw_0, hw_1, hw_2⟩ := hpo
  have h_co : PR E (x + 1) (courtW E (x + 1) (opC co 6 k 0 0 0)) H1 := hw_0
  have h_hi : PR E (x + 85) [(x + 85, .inr (7, [.ref (x + 86), .int (zI (if nx < 7 then nx + 1 else 0)), .int (zI (min (sz + 1) 8))])), (x + 86, .inl (E 102 3, 8, .inr (.inr (.inr (.inr (hisA (x + 87) 8))))))] H1 := hw_1
  have h_hf : HF E (x + 87) 8 (fun j => if j = nx.toNat then co else hc j) H1 := hw_2
  replace h_cm := h_cm.kept hF 1 rfl (by intro q q1 q2 q3; simp only [Fs, or_false] at q3; omega)
  show V p l e (rmL 10 0 0) s m args below meth cd Q 2 H1 lo1 0 0 10 [(0, .ref x), (1, .int (zI k))] [.int (zI (opV co 6 k 0 0 0))]
  have hb_2 := hO.b6 k
  subst hQ; exact m_iret X hr hlk hM dX9_close_10 rfl ⟨rfl, h_co, h_hi, h_hf⟩
set_option maxHeartbeats 4000000 in
set_option maxRecDepth 20000 in
theorem x_X9_close_1 (l : Launch) (hl : l.stackTraces = false) (E : Nat → Nat → Nat) (x : Nat) (co : Nat → Int → Int) (hs : Int) (er : Int) (fa : Int) (ss : Int) (k : Int) (hO : OkC co) (gk : Rg k) (hf : flC co 6 k 0 0 = 1) : Tx l yX9_close cX9_close 2 (some .int) 10 1 6 E [] [.ref x, .int (zI k)] (fun H => PR E x [(x, .inr (11, [.ref (x + 1), .ref (x + 29), .ref (x + 57), .ref (x + 85), .ref (x + 311), .ref (x + 314), .ref (x + 319), .ref (x + 332), .int (zI hs), .int (zI er), .int (zI fa), .int (zI ss)]))] H ∧ PR E (x + 1) (courtW E (x + 1) co) H) "java/lang/IndexOutOfBoundsException" (fun H => True) := by
  refine Tx.start (own := RX9) rfl (by decide +kernel) (Nat.le_of_ble_eq_true rfl) ?_
  intro p e s m below meth cd args Q hQ X tb hlk hM hPr
  obtain ⟨h_cm, h_co⟩ := hPr
  have hb0 := hO.b0
  have hbw := hO.bw
  refine v_aload_n X dX9_close_0 1 rfl 0 rfl ?_
  refine v_bipush X dX9_close_1 3 rfl rfl ?_
  refine v_iload_n X dX9_close_3 4 rfl 1 rfl ?_
  refine v_iconst X dX9_close_4 5 rfl ?_
  refine v_iconst X dX9_close_5 6 rfl ?_
  refine v_iconst X dX9_close_6 7 rfl ?_
  subst hQ; exact v_txV X tb hlk hM (h_cm.1) (x_X9_change_1 l hl E x co hs er fa ss 6 k 0 0 0 hO (by omega) gk (by omega) (by omega) hf) kvX9_change kiX9_change kl_X9_71 (q0 := 0) rfl rfl (As := [.int (zI 6), .int (zI k), .int (zI 0), .int (zI 0), .int (zI 0)]) rfl rfl rfl rfl dX9_close_7 (fun q hq => hq.elim) ⟨h_cm, h_co⟩ (fun H1 hF hpo => trivial)
set_option maxHeartbeats 4000000 in
set_option maxRecDepth 20000 in
theorem x_X9_close_4 (l : Launch) (hl : l.stackTraces = false) (E : Nat → Nat → Nat) (x : Nat) (co : Nat → Int → Int) (hs : Int) (er : Int) (fa : Int) (ss : Int) (k : Int) (hO : OkC co) (gk : Rg k) (hf : flC co 6 k 0 0 = 4) : Tx l yX9_close cX9_close 2 (some .int) 10 1 6 E [] [.ref x, .int (zI k)] (fun H => PR E x [(x, .inr (11, [.ref (x + 1), .ref (x + 29), .ref (x + 57), .ref (x + 85), .ref (x + 311), .ref (x + 314), .ref (x + 319), .ref (x + 332), .int (zI hs), .int (zI er), .int (zI fa), .int (zI ss)]))] H ∧ PR E (x + 1) (courtW E (x + 1) co) H) "java/lang/IllegalStateException" (fun H => True) := by
  refine Tx.start (own := RX9) rfl (by decide +kernel) (Nat.le_of_ble_eq_true rfl) ?_
  intro p e s m below meth cd args Q hQ X tb hlk hM hPr
  obtain ⟨h_cm, h_co⟩ := hPr
  have hb0 := hO.b0
  have hbw := hO.bw
  refine v_aload_n X dX9_close_0 1 rfl 0 rfl ?_
  refine v_bipush X dX9_close_1 3 rfl rfl ?_
  refine v_iload_n X dX9_close_3 4 rfl 1 rfl ?_
  refine v_iconst X dX9_close_4 5 rfl ?_
  refine v_iconst X dX9_close_5 6 rfl ?_
  refine v_iconst X dX9_close_6 7 rfl ?_
  subst hQ; exact v_txV X tb hlk hM (h_cm.1) (x_X9_change_4 l hl E x co hs er fa ss 6 k 0 0 0 hO (by omega) gk (by omega) (by omega) hf) kvX9_change kiX9_change kl_X9_71 (q0 := 0) rfl rfl (As := [.int (zI 6), .int (zI k), .int (zI 0), .int (zI 0), .int (zI 0)]) rfl rfl rfl rfl dX9_close_7 (fun q hq => hq.elim) ⟨h_cm, h_co⟩ (fun H1 hF hpo => trivial)
