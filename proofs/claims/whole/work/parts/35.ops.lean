set_option maxHeartbeats 4000000 in
set_option maxRecDepth 20000 in
theorem c_X9_refuse (l : Launch) (E : Nat → Nat → Nat)  : Rd l yX9_refuse cX9_refuse 1 none 0 E [.ref (E 103 0)] ([]) none := by
  refine Rd.start (own := RX9) rfl (by decide +kernel) (Nat.le_of_ble_eq_true rfl) ?_
  intro p e s m below meth cd args Q hQ X hr hlk hC hP
  refine v_aload_n X dX9_refuse_0 1 rfl 0 rfl ?_
  refine v_flt X (MS0 hC) 1 (by decide) kf_X9_376 dX9_refuse_1 4 rfl ?_
  refine v_acmp_ne X dX9_refuse_4 7 18 rfl (by decide) (fun c_1 => ?_) (fun c_1 => ?_)
  · skip
    refine v_aload_n X dX9_refuse_18 19 rfl 0 rfl ?_
    refine v_flt X (MS0 hC) 2 (by decide) kf_X9_384 dX9_refuse_19 22 rfl ?_
    refine v_acmp_ne X dX9_refuse_22 25 36 rfl (by decide) (fun c_2 => ?_) (fun c_2 => ?_)
    · skip
      refine v_aload_n X dX9_refuse_36 37 rfl 0 rfl ?_
      refine v_flt X (MS0 hC) 3 (by decide) kf_X9_389 dX9_refuse_37 40 rfl ?_
      refine v_acmp_ne X dX9_refuse_40 43 54 rfl (by decide) (fun c_3 => ?_) (fun c_3 => ?_)
      · skip
        refine v_aload_n X dX9_refuse_54 55 rfl 0 rfl ?_
        refine v_flt X (MS0 hC) 4 (by decide) kf_X9_394 dX9_refuse_55 58 rfl ?_
        refine v_acmp_ne X dX9_refuse_58 61 72 rfl (by decide) (fun c_4 => ?_) (fun c_4 => ?_)
        · skip
          subst hQ; exact v_vret0 X hr hlk dX9_refuse_72
        · skip
          exfalso; exact absurd (flt_inj (MS0 hC) (by decide) (by decide) c_4) (by decide)
      · skip
        exfalso; exact absurd (flt_inj (MS0 hC) (by decide) (by decide) c_3) (by decide)
    · skip
      exfalso; exact absurd (flt_inj (MS0 hC) (by decide) (by decide) c_2) (by decide)
  · skip
    exfalso; exact absurd (flt_inj (MS0 hC) (by decide) (by decide) c_1) (by decide)
set_option maxHeartbeats 4000000 in
set_option maxRecDepth 20000 in
theorem x_X9_refuse_1 (l : Launch) (hl : l.stackTraces = false) (E : Nat → Nat → Nat)  : Tx l yX9_refuse cX9_refuse 1 none 6 1 6 E [] [.ref (E 103 1)] (fun H => True) "java/lang/IndexOutOfBoundsException" (fun H => True) := by
  refine Tx.start (own := RX9) rfl (by decide +kernel) (Nat.le_of_ble_eq_true rfl) ?_
  intro p e s m below meth cd args Q hQ X tb hlk hM hPr
  refine v_aload_n X dX9_refuse_0 1 rfl 0 rfl ?_
  refine v_flt X hM 1 (by decide) kf_X9_376 dX9_refuse_1 4 rfl ?_
  refine v_acmp_ne X dX9_refuse_4 7 18 rfl (by decide) (fun c_1 => ?_) (fun c_1 => ?_)
  · skip
    exfalso; exact c_1 rfl
  · skip
    subst hQ; exact v_throwW X hl tb hlk hM xt_IOB xk_IOB 7 rfl dX9_refuse_7 dX9_refuse_10 dX9_refuse_11 dX9_refuse_14 dX9_refuse_17 rfl (fun H1 hF => trivial)
set_option maxHeartbeats 4000000 in
set_option maxRecDepth 20000 in
theorem x_X9_refuse_2 (l : Launch) (hl : l.stackTraces = false) (E : Nat → Nat → Nat)  : Tx l yX9_refuse cX9_refuse 1 none 6 1 6 E [] [.ref (E 103 2)] (fun H => True) "java/lang/IllegalArgumentException" (fun H => True) := by
  refine Tx.start (own := RX9) rfl (by decide +kernel) (Nat.le_of_ble_eq_true rfl) ?_
  intro p e s m below meth cd args Q hQ X tb hlk hM hPr
  refine v_aload_n X dX9_refuse_0 1 rfl 0 rfl ?_
  refine v_flt X hM 1 (by decide) kf_X9_376 dX9_refuse_1 4 rfl ?_
  refine v_acmp_ne X dX9_refuse_4 7 18 rfl (by decide) (fun c_1 => ?_) (fun c_1 => ?_)
  · skip
    refine v_aload_n X dX9_refuse_18 19 rfl 0 rfl ?_
    refine v_flt X hM 2 (by decide) kf_X9_384 dX9_refuse_19 22 rfl ?_
    refine v_acmp_ne X dX9_refuse_22 25 36 rfl (by decide) (fun c_2 => ?_) (fun c_2 => ?_)
    · skip
      exfalso; exact c_2 rfl
    · skip
      subst hQ; exact v_throwW X hl tb hlk hM xt_IAE xk_IAE 8 rfl dX9_refuse_25 dX9_refuse_28 dX9_refuse_29 dX9_refuse_32 dX9_refuse_35 rfl (fun H1 hF => trivial)
  · skip
    exfalso; exact absurd (flt_inj hM (by decide) (by decide) c_1) (by decide)
set_option maxHeartbeats 4000000 in
set_option maxRecDepth 20000 in
theorem x_X9_refuse_3 (l : Launch) (hl : l.stackTraces = false) (E : Nat → Nat → Nat)  : Tx l yX9_refuse cX9_refuse 1 none 6 1 6 E [] [.ref (E 103 3)] (fun H => True) "java/util/NoSuchElementException" (fun H => True) := by
  refine Tx.start (own := RX9) rfl (by decide +kernel) (Nat.le_of_ble_eq_true rfl) ?_
  intro p e s m below meth cd args Q hQ X tb hlk hM hPr
  refine v_aload_n X dX9_refuse_0 1 rfl 0 rfl ?_
  refine v_flt X hM 1 (by decide) kf_X9_376 dX9_refuse_1 4 rfl ?_
  refine v_acmp_ne X dX9_refuse_4 7 18 rfl (by decide) (fun c_1 => ?_) (fun c_1 => ?_)
  · skip
    refine v_aload_n X dX9_refuse_18 19 rfl 0 rfl ?_
    refine v_flt X hM 2 (by decide) kf_X9_384 dX9_refuse_19 22 rfl ?_
    refine v_acmp_ne X dX9_refuse_22 25 36 rfl (by decide) (fun c_2 => ?_) (fun c_2 => ?_)
    · skip
      refine v_aload_n X dX9_refuse_36 37 rfl 0 rfl ?_
      refine v_flt X hM 3 (by decide) kf_X9_389 dX9_refuse_37 40 rfl ?_
      refine v_acmp_ne X dX9_refuse_40 43 54 rfl (by decide) (fun c_3 => ?_) (fun c_3 => ?_)
      · skip
        exfalso; exact c_3 rfl
      · skip
        subst hQ; exact v_throwW X hl tb hlk hM xt_NSE xk_NSE 9 rfl dX9_refuse_43 dX9_refuse_46 dX9_refuse_47 dX9_refuse_50 dX9_refuse_53 rfl (fun H1 hF => trivial)
    · skip
      exfalso; exact absurd (flt_inj hM (by decide) (by decide) c_2) (by decide)
  · skip
    exfalso; exact absurd (flt_inj hM (by decide) (by decide) c_1) (by decide)
set_option maxHeartbeats 4000000 in
set_option maxRecDepth 20000 in
theorem x_X9_refuse_4 (l : Launch) (hl : l.stackTraces = false) (E : Nat → Nat → Nat)  : Tx l yX9_refuse cX9_refuse 1 none 6 1 6 E [] [.ref (E 103 4)] (fun H => True) "java/lang/IllegalStateException" (fun H => True) := by
  refine Tx.start (own := RX9) rfl (by decide +kernel) (Nat.le_of_ble_eq_true rfl) ?_
  intro p e s m below meth cd args Q hQ X tb hlk hM hPr
  refine v_aload_n X dX9_refuse_0 1 rfl 0 rfl ?_
  refine v_flt X hM 1 (by decide) kf_X9_376 dX9_refuse_1 4 rfl ?_
  refine v_acmp_ne X dX9_refuse_4 7 18 rfl (by decide) (fun c_1 => ?_) (fun c_1 => ?_)
  · skip
    refine v_aload_n X dX9_refuse_18 19 rfl 0 rfl ?_
    refine v_flt X hM 2 (by decide) kf_X9_384 dX9_refuse_19 22 rfl ?_
    refine v_acmp_ne X dX9_refuse_22 25 36 rfl (by decide) (fun c_2 => ?_) (fun c_2 => ?_)
    · skip
      refine v_aload_n X dX9_refuse_36 37 rfl 0 rfl ?_
      refine v_flt X hM 3 (by decide) kf_X9_389 dX9_refuse_37 40 rfl ?_
      refine v_acmp_ne X dX9_refuse_40 43 54 rfl (by decide) (fun c_3 => ?_) (fun c_3 => ?_)
      · skip
        refine v_aload_n X dX9_refuse_54 55 rfl 0 rfl ?_
        refine v_flt X hM 4 (by decide) kf_X9_394 dX9_refuse_55 58 rfl ?_
        refine v_acmp_ne X dX9_refuse_58 61 72 rfl (by decide) (fun c_4 => ?_) (fun c_4 => ?_)
        · skip
          exfalso; exact c_4 rfl
        · skip
          subst hQ; exact v_throwW X hl tb hlk hM xt_ISE xk_ISE 10 rfl dX9_refuse_61 dX9_refuse_64 dX9_refuse_65 dX9_refuse_68 dX9_refuse_71 rfl (fun H1 hF => trivial)
      · skip
        exfalso; exact absurd (flt_inj hM (by decide) (by decide) c_3) (by decide)
    · skip
      exfalso; exact absurd (flt_inj hM (by decide) (by decide) c_2) (by decide)
  · skip
    exfalso; exact absurd (flt_inj hM (by decide) (by decide) c_1) (by decide)
set_option maxHeartbeats 4000000 in
set_option maxRecDepth 20000 in
theorem c_X9_change (l : Launch) (E : Nat → Nat → Nat) (x : Nat) (co : Nat → Int → Int) (hs : Int) (er : Int) (fa : Int) (ss : Int) (kd : Int) (a : Int) (y : Int) (f : Int) (z : Int) (hc : Nat → Nat → Int → Int) (nx : Int) (sz : Int) (hO : OkC co) (hkd : 0 ≤ kd ∧ kd ≤ 6) (ga : Rg a) (gy : Rg y) (gz : Rg z) (hb : 0 ≤ f ∧ f ≤ 1) (hf : flC co kd a y z = 0) (n0 : 0 ≤ nx) (n1 : nx < 8) (s0 : 0 ≤ sz) (s1 : sz ≤ 8) (hd_cm_co : x + 1 ≤ x + 1 ∨ x + 1 + 28 ≤ x) (hd_cm_hi : x + 1 ≤ x + 85 ∨ x + 85 + 2 ≤ x) (hd_cm_hf : x + 1 ≤ x + 87 ∨ x + 87 + 224 ≤ x) (hd_co_hi : x + 1 + 28 ≤ x + 85 ∨ x + 85 + 2 ≤ x + 1) (hd_co_hf : x + 1 + 28 ≤ x + 87 ∨ x + 87 + 224 ≤ x + 1) (hd_hi_hf : x + 85 + 2 ≤ x + 87 ∨ x + 87 + 224 ≤ x + 85) : Mu l yX9_change cX9_change 6 (some .int) 9 0 0 E [(x + 1, 28), (x + 85, 2), (x + 87, 224)] [.ref x, .int (zI kd), .int (zI a), .int (zI y), .int (zI f), .int (zI z)] (fun H => PR E x [(x, .inr (11, [.ref (x + 1), .ref (x + 29), .ref (x + 57), .ref (x + 85), .ref (x + 311), .ref (x + 314), .ref (x + 319), .ref (x + 332), .int (zI hs), .int (zI er), .int (zI fa), .int (zI ss)]))] H ∧ PR E (x + 1) (courtW E (x + 1) co) H ∧ PR E (x + 85) [(x + 85, .inr (7, [.ref (x + 86), .int (zI nx), .int (zI sz)])), (x + 86, .inl (E 102 3, 8, .inr (.inr (.inr (.inr (hisA (x + 87) 8))))))] H ∧ HF E (x + 87) 8 hc H) (fun rv H => rv = some (.int (zI (opV co kd a y f z))) ∧ PR E (x + 1) (courtW E (x + 1) (opC co kd a y f z)) H ∧ PR E (x + 85) [(x + 85, .inr (7, [.ref (x + 86), .int (zI (if nx < 7 then nx + 1 else 0)), .int (zI (min (sz + 1) 8))])), (x + 86, .inl (E 102 3, 8, .inr (.inr (.inr (.inr (hisA (x + 87) 8))))))] H ∧ HF E (x + 87) 8 (fun j => if j = nx.toNat then co else hc j) H) := by
  refine Mu.start (own := RX9) rfl (by decide +kernel) (Nat.le_of_ble_eq_true rfl) ?_
  intro p e s m below meth cd args Q hQ X hr hlk hnm hM hPr
  obtain ⟨h_cm, h_co, h_hi, h_hf⟩ := hPr
  have hb0 := hO.b0
  have hbw := hO.bw
  refine v_aload_n X dX9_change_0 1 rfl 0 rfl ?_
  refine v_getf X hM.C h_cm.1 inX9 0 rfl rfl 0 (by decide) kf_X9_10 (fun _ h => h) rfl dX9_change_1 4 rfl ?_
  refine v_iload_n X dX9_change_4 5 rfl 1 rfl ?_
  refine v_iload_n X dX9_change_5 6 rfl 2 rfl ?_
  refine v_iload_n X dX9_change_6 7 rfl 3 rfl ?_
  refine v_iload X dX9_change_7 9 rfl 5 rfl ?_
  refine v_rdV X hM.C h_co.1 (c_X0_faultOf l E (x + 1) co kd a y z hO hkd ga gy gz) kvX0_faultOf kiX0_faultOf kl_X9_362 rfl rfl (As := [.int (zI kd), .int (zI a), .int (zI y), .int (zI z)]) rfl rfl rfl dX9_change_9 12 rfl ?_
  show V p l e (rmL 9 0 0) s m args below meth cd Q 6 s.heap [] 0 0 12 [(0, .ref x), (1, .int (zI kd)), (2, .int (zI a)), (3, .int (zI y)), (4, .int (zI f)), (5, .int (zI z))] [.ref (E 103 (flC co kd a y z))]
  refine V_S (st' := [.ref (E 103 0)]) (by rw [hf]) ?_
  refine v_rdS X hM.C (ws0 E s.heap) (c_X9_refuse l E ) kvX9_refuse ksX9_refuse kl_X9_366 (As := [.ref (E 103 0)]) rfl rfl rfl dX9_change_12 15 rfl ?_
  show V p l e (rmL 9 0 0) s m args below meth cd Q 6 s.heap [] 0 0 15 [(0, .ref x), (1, .int (zI kd)), (2, .int (zI a)), (3, .int (zI y)), (4, .int (zI f)), (5, .int (zI z))] []
  refine v_aload_n X dX9_change_15 16 rfl 0 rfl ?_
  refine v_getf X hM.C h_cm.1 inX9 0 rfl rfl 3 (by decide) kf_X9_25 (fun _ h => h) rfl dX9_change_16 19 rfl ?_
  refine v_aload_n X dX9_change_19 20 rfl 0 rfl ?_
  refine v_getf X hM.C h_cm.1 inX9 0 rfl rfl 0 (by decide) kf_X9_10 (fun _ h => h) rfl dX9_change_20 23 rfl ?_
  refine v_muV X hM (h_hi.1) (c_X4_keep l E (x + 85) (x + 1) co hc nx sz n0 n1 s0 s1 (by omega) (by omega) (by omega)) kvX4_keep kiX4_keep kl_X9_370 (q0 := 0) rfl rfl (As := [.ref (x + 1)]) rfl rfl rfl dX9_change_23 26 rfl (k' := 0) (n' := 0) rfl rfl (by intro q hq; simp only [Fr, Fs, or_false, false_or] at hq ⊢; omega) ⟨h_hi, h_hf, h_co⟩ (fun rv H1 lo1 hM hF hpo => ?_)
  obtain ⟨rfl, hw_0, hw_1⟩ := hpo
  have h_hi : PR E (x + 85) [(x + 85, .inr (7, [.ref ((x + 85) + 1), .int (zI (if nx < 7 then nx + 1 else 0)), .int (zI (min (sz + 1) 8))])), (x + 86, .inl (E 102 3, 8, .inr (.inr (.inr (.inr (hisA ((x + 85) + 2) 8))))))] H1 := hw_0
  have h_hf : HF E ((x + 85) + 2) 8 (fun j => if j = nx.toNat then co else hc j) H1 := hw_1
  replace h_cm := h_cm.kept hF 1 rfl (by intro q q1 q2 q3; simp only [Fs, or_false] at q3; omega)
  replace h_co := h_co.kept hF 28 rfl (by intro q q1 q2 q3; simp only [Fs, or_false] at q3; omega)
  show V p l e (rmL 9 0 0) s m args below meth cd Q 6 H1 lo1 0 0 26 [(0, .ref x), (1, .int (zI kd)), (2, .int (zI a)), (3, .int (zI y)), (4, .int (zI f)), (5, .int (zI z))] []
  refine v_aload_n X dX9_change_26 27 rfl 0 rfl ?_
  refine v_getf X hM.C h_cm.1 inX9 0 rfl rfl 0 (by decide) kf_X9_10 (fun _ h => h) rfl dX9_change_27 30 rfl ?_
  refine v_iload_n X dX9_change_30 31 rfl 1 rfl ?_
  refine v_iload_n X dX9_change_31 32 rfl 2 rfl ?_
  refine v_iload_n X dX9_change_32 33 rfl 3 rfl ?_
  refine v_iload X dX9_change_33 35 rfl 4 rfl ?_
  refine v_iload X dX9_change_35 37 rfl 5 rfl ?_
  refine v_muV X hM (h_co.1) (c_X0_perform l E (x + 1) co kd a y f z hO hkd ga gy gz hb hf) kvX0_perform kiX0_perform kl_X9_373 (q0 := 0) rfl rfl (As := [.int (zI kd), .int (zI a), .int (zI y), .int (zI f), .int (zI z)]) rfl rfl rfl dX9_change_37 40 rfl (k' := 0) (n' := 0) rfl rfl (fsI (fun q q1 q2 => (Or.inl (fsH (by omega) (by omega))))) h_co (fun rv H2 lo2 hM hF hpo => ?_)
  obtain ⟨rfl, hw_0⟩ := hpo
  have h_co : PR E (x + 1) (courtW E (x + 1) (opC co kd a y f z)) H2 := hw_0
  replace h_cm := h_cm.kept hF 1 rfl (fsd (by omega))
  replace h_hi := h_hi.kept hF 2 rfl (fsd (by omega))
  replace h_hf := h_hf.kept hF (fsd (by omega))
  show V p l e (rmL 9 0 0) s m args below meth cd Q 6 H2 lo2 0 0 40 [(0, .ref x), (1, .int (zI kd)), (2, .int (zI a)), (3, .int (zI y)), (4, .int (zI f)), (5, .int (zI z))] [.int (zI (opV co kd a y f z))]
  subst hQ; exact m_iret X hr hlk hM dX9_change_40 rfl ⟨rfl, h_co, h_hi, h_hf⟩
set_option maxHeartbeats 4000000 in
set_option maxRecDepth 20000 in
theorem x_X9_change_1 (l : Launch) (hl : l.stackTraces = false) (E : Nat → Nat → Nat) (x : Nat) (co : Nat → Int → Int) (hs : Int) (er : Int) (fa : Int) (ss : Int) (kd : Int) (a : Int) (y : Int) (f : Int) (z : Int) (hO : OkC co) (hkd : 0 ≤ kd ∧ kd ≤ 6) (ga : Rg a) (gy : Rg y) (gz : Rg z) (hf : flC co kd a y z = 1) : Tx l yX9_change cX9_change 6 (some .int) 9 1 6 E [] [.ref x, .int (zI kd), .int (zI a), .int (zI y), .int (zI f), .int (zI z)] (fun H => PR E x [(x, .inr (11, [.ref (x + 1), .ref (x + 29), .ref (x + 57), .ref (x + 85), .ref (x + 311), .ref (x + 314), .ref (x + 319), .ref (x + 332), .int (zI hs), .int (zI er), .int (zI fa), .int (zI ss)]))] H ∧ PR E (x + 1) (courtW E (x + 1) co) H) "java/lang/IndexOutOfBoundsException" (fun H => True) := by
  refine Tx.start (own := RX9) rfl (by decide +kernel) (Nat.le_of_ble_eq_true rfl) ?_
  intro p e s m below meth cd args Q hQ X tb hlk hM hPr
  obtain ⟨h_cm, h_co⟩ := hPr
  have hb0 := hO.b0
  have hbw := hO.bw
  refine v_aload_n X dX9_change_0 1 rfl 0 rfl ?_
  refine v_getf X hM.C h_cm.1 inX9 0 rfl rfl 0 (by decide) kf_X9_10 (fun _ h => h) rfl dX9_change_1 4 rfl ?_
  refine v_iload_n X dX9_change_4 5 rfl 1 rfl ?_
  refine v_iload_n X dX9_change_5 6 rfl 2 rfl ?_
  refine v_iload_n X dX9_change_6 7 rfl 3 rfl ?_
  refine v_iload X dX9_change_7 9 rfl 5 rfl ?_
  refine v_rdV X hM.C h_co.1 (c_X0_faultOf l E (x + 1) co kd a y z hO hkd ga gy gz) kvX0_faultOf kiX0_faultOf kl_X9_362 rfl rfl (As := [.int (zI kd), .int (zI a), .int (zI y), .int (zI z)]) rfl rfl rfl dX9_change_9 12 rfl ?_
  show V p l e (rmL 9 1 6) s m args below meth cd Q 6 s.heap [] 0 0 12 [(0, .ref x), (1, .int (zI kd)), (2, .int (zI a)), (3, .int (zI y)), (4, .int (zI f)), (5, .int (zI z))] [.ref (E 103 (flC co kd a y z))]
  refine V_S (st' := [.ref (E 103 1)]) (by rw [hf]) ?_
  subst hQ; exact v_txS X tb hlk hM (x_X9_refuse_1 l hl E ) kvX9_refuse ksX9_refuse kl_X9_366 (As := [.ref (E 103 1)]) rfl rfl rfl rfl dX9_change_12 (fun q hq => hq.elim) trivial (fun H1 hF hpo => trivial)
set_option maxHeartbeats 4000000 in
set_option maxRecDepth 20000 in
theorem x_X9_change_2 (l : Launch) (hl : l.stackTraces = false) (E : Nat → Nat → Nat) (x : Nat) (co : Nat → Int → Int) (hs : Int) (er : Int) (fa : Int) (ss : Int) (kd : Int) (a : Int) (y : Int) (f : Int) (z : Int) (hO : OkC co) (hkd : 0 ≤ kd ∧ kd ≤ 6) (ga : Rg a) (gy : Rg y) (gz : Rg z) (hf : flC co kd a y z = 2) : Tx l yX9_change cX9_change 6 (some .int) 9 1 6 E [] [.ref x, .int (zI kd), .int (zI a), .int (zI y), .int (zI f), .int (zI z)] (fun H => PR E x [(x, .inr (11, [.ref (x + 1), .ref (x + 29), .ref (x + 57), .ref (x + 85), .ref (x + 311), .ref (x + 314), .ref (x + 319), .ref (x + 332), .int (zI hs), .int (zI er), .int (zI fa), .int (zI ss)]))] H ∧ PR E (x + 1) (courtW E (x + 1) co) H) "java/lang/IllegalArgumentException" (fun H => True) := by
  refine Tx.start (own := RX9) rfl (by decide +kernel) (Nat.le_of_ble_eq_true rfl) ?_
  intro p e s m below meth cd args Q hQ X tb hlk hM hPr
  obtain ⟨h_cm, h_co⟩ := hPr
  have hb0 := hO.b0
  have hbw := hO.bw
  refine v_aload_n X dX9_change_0 1 rfl 0 rfl ?_
  refine v_getf X hM.C h_cm.1 inX9 0 rfl rfl 0 (by decide) kf_X9_10 (fun _ h => h) rfl dX9_change_1 4 rfl ?_
  refine v_iload_n X dX9_change_4 5 rfl 1 rfl ?_
  refine v_iload_n X dX9_change_5 6 rfl 2 rfl ?_
  refine v_iload_n X dX9_change_6 7 rfl 3 rfl ?_
  refine v_iload X dX9_change_7 9 rfl 5 rfl ?_
  refine v_rdV X hM.C h_co.1 (c_X0_faultOf l E (x + 1) co kd a y z hO hkd ga gy gz) kvX0_faultOf kiX0_faultOf kl_X9_362 rfl rfl (As := [.int (zI kd), .int (zI a), .int (zI y), .int (zI z)]) rfl rfl rfl dX9_change_9 12 rfl ?_
  show V p l e (rmL 9 1 6) s m args below meth cd Q 6 s.heap [] 0 0 12 [(0, .ref x), (1, .int (zI kd)), (2, .int (zI a)), (3, .int (zI y)), (4, .int (zI f)), (5, .int (zI z))] [.ref (E 103 (flC co kd a y z))]
  refine V_S (st' := [.ref (E 103 2)]) (by rw [hf]) ?_
  subst hQ; exact v_txS X tb hlk hM (x_X9_refuse_2 l hl E ) kvX9_refuse ksX9_refuse kl_X9_366 (As := [.ref (E 103 2)]) rfl rfl rfl rfl dX9_change_12 (fun q hq => hq.elim) trivial (fun H1 hF hpo => trivial)
set_option maxHeartbeats 4000000 in
set_option maxRecDepth 20000 in
theorem x_X9_change_3 (l : Launch) (hl : l.stackTraces = false) (E : Nat → Nat → Nat) (x : Nat) (co : Nat → Int → Int) (hs : Int) (er : Int) (fa : Int) (ss : Int) (kd : Int) (a : Int) (y : Int) (f : Int) (z : Int) (hO : OkC co) (hkd : 0 ≤ kd ∧ kd ≤ 6) (ga : Rg a) (gy : Rg y) (gz : Rg z) (hf : flC co kd a y z = 3) : Tx l yX9_change cX9_change 6 (some .int) 9 1 6 E [] [.ref x, .int (zI kd), .int (zI a), .int (zI y), .int (zI f), .int (zI z)] (fun H => PR E x [(x, .inr (11, [.ref (x + 1), .ref (x + 29), .ref (x + 57), .ref (x + 85), .ref (x + 311), .ref (x + 314), .ref (x + 319), .ref (x + 332), .int (zI hs), .int (zI er), .int (zI fa), .int (zI ss)]))] H ∧ PR E (x + 1) (courtW E (x + 1) co) H) "java/util/NoSuchElementException" (fun H => True) := by
  refine Tx.start (own := RX9) rfl (by decide +kernel) (Nat.le_of_ble_eq_true rfl) ?_
  intro p e s m below meth cd args Q hQ X tb hlk hM hPr
  obtain ⟨h_cm, h_co⟩ := hPr
  have hb0 := hO.b0
  have hbw := hO.bw
  refine v_aload_n X dX9_change_0 1 rfl 0 rfl ?_
  refine v_getf X hM.C h_cm.1 inX9 0 rfl rfl 0 (by decide) kf_X9_10 (fun _ h => h) rfl dX9_change_1 4 rfl ?_
  refine v_iload_n X dX9_change_4 5 rfl 1 rfl ?_
  refine v_iload_n X dX9_change_5 6 rfl 2 rfl ?_
  refine v_iload_n X dX9_change_6 7 rfl 3 rfl ?_
  refine v_iload X dX9_change_7 9 rfl 5 rfl ?_
  refine v_rdV X hM.C h_co.1 (c_X0_faultOf l E (x + 1) co kd a y z hO hkd ga gy gz) kvX0_faultOf kiX0_faultOf kl_X9_362 rfl rfl (As := [.int (zI kd), .int (zI a), .int (zI y), .int (zI z)]) rfl rfl rfl dX9_change_9 12 rfl ?_
  show V p l e (rmL 9 1 6) s m args below meth cd Q 6 s.heap [] 0 0 12 [(0, .ref x), (1, .int (zI kd)), (2, .int (zI a)), (3, .int (zI y)), (4, .int (zI f)), (5, .int (zI z))] [.ref (E 103 (flC co kd a y z))]
  refine V_S (st' := [.ref (E 103 3)]) (by rw [hf]) ?_
  subst hQ; exact v_txS X tb hlk hM (x_X9_refuse_3 l hl E ) kvX9_refuse ksX9_refuse kl_X9_366 (As := [.ref (E 103 3)]) rfl rfl rfl rfl dX9_change_12 (fun q hq => hq.elim) trivial (fun H1 hF hpo => trivial)
set_option maxHeartbeats 4000000 in
set_option maxRecDepth 20000 in
theorem x_X9_change_4 (l : Launch) (hl : l.stackTraces = false) (E : Nat → Nat → Nat) (x : Nat) (co : Nat → Int → Int) (hs : Int) (er : Int) (fa : Int) (ss : Int) (kd : Int) (a : Int) (y : Int) (f : Int) (z : Int) (hO : OkC co) (hkd : 0 ≤ kd ∧ kd ≤ 6) (ga : Rg a) (gy : Rg y) (gz : Rg z) (hf : flC co kd a y z = 4) : Tx l yX9_change cX9_change 6 (some .int) 9 1 6 E [] [.ref x, .int (zI kd), .int (zI a), .int (zI y), .int (zI f), .int (zI z)] (fun H => PR E x [(x, .inr (11, [.ref (x + 1), .ref (x + 29), .ref (x + 57), .ref (x + 85), .ref (x + 311), .ref (x + 314), .ref (x + 319), .ref (x + 332), .int (zI hs), .int (zI er), .int (zI fa), .int (zI ss)]))] H ∧ PR E (x + 1) (courtW E (x + 1) co) H) "java/lang/IllegalStateException" (fun H => True) := by
  refine Tx.start (own := RX9) rfl (by decide +kernel) (Nat.le_of_ble_eq_true rfl) ?_
  intro p e s m below meth cd args Q hQ X tb hlk hM hPr
  obtain ⟨h_cm, h_co⟩ := hPr
  have hb0 := hO.b0
  have hbw := hO.bw
  refine v_aload_n X dX9_change_0 1 rfl 0 rfl ?_
  refine v_getf X hM.C h_cm.1 inX9 0 rfl rfl 0 (by decide) kf_X9_10 (fun _ h => h) rfl dX9_change_1 4 rfl ?_
  refine v_iload_n X dX9_change_4 5 rfl 1 rfl ?_
  refine v_iload_n X dX9_change_5 6 rfl 2 rfl ?_
  refine v_iload_n X dX9_change_6 7 rfl 3 rfl ?_
  refine v_iload X dX9_change_7 9 rfl 5 rfl ?_
  refine v_rdV X hM.C h_co.1 (c_X0_faultOf l E (x + 1) co kd a y z hO hkd ga gy gz) kvX0_faultOf kiX0_faultOf kl_X9_362 rfl rfl (As := [.int (zI kd), .int (zI a), .int (zI y), .int (zI z)]) rfl rfl rfl dX9_change_9 12 rfl ?_
  show V p l e (rmL 9 1 6) s m args below meth cd Q 6 s.heap [] 0 0 12 [(0, .ref x), (1, .int (zI kd)), (2, .int (zI a)), (3, .int (zI y)), (4, .int (zI f)), (5, .int (zI z))] [.ref (E 103 (flC co kd a y z))]
  refine V_S (st' := [.ref (E 103 4)]) (by rw [hf]) ?_
  subst hQ; exact v_txS X tb hlk hM (x_X9_refuse_4 l hl E ) kvX9_refuse ksX9_refuse kl_X9_366 (As := [.ref (E 103 4)]) rfl rfl rfl rfl dX9_change_12 (fun q hq => hq.elim) trivial (fun H1 hF hpo => trivial)
theorem opV4_b (co : Nat → Int → Int) (a y f z : Int) : 0 ≤ opV co 4 a y f z ∧ opV co 4 a y f z ≤ 1 := by
  have e : opV co 4 a y f z = if 0 < mgC co a then 1 else 0 := rfl
  rw [e]
  split <;> omega
set_option maxHeartbeats 4000000 in
set_option maxRecDepth 20000 in
theorem c_X9_charge (l : Launch) (E : Nat → Nat → Nat) (x : Nat) (co : Nat → Int → Int) (hs : Int) (er : Int) (fa : Int) (ss : Int) (d : Int) (o : Int) (hc : Nat → Nat → Int → Int) (nx : Int) (sz : Int) (hO : OkC co) (gd : Rg d) (go : Rg o) (hf : flC co 0 d o 0 = 0) (n0 : 0 ≤ nx) (n1 : nx < 8) (s0 : 0 ≤ sz) (s1 : sz ≤ 8) (hd_cm_co : x + 1 ≤ x + 1 ∨ x + 1 + 28 ≤ x) (hd_cm_hi : x + 1 ≤ x + 85 ∨ x + 85 + 2 ≤ x) (hd_cm_hf : x + 1 ≤ x + 87 ∨ x + 87 + 224 ≤ x) (hd_co_hi : x + 1 + 28 ≤ x + 85 ∨ x + 85 + 2 ≤ x + 1) (hd_co_hf : x + 1 + 28 ≤ x + 87 ∨ x + 87 + 224 ≤ x + 1) (hd_hi_hf : x + 85 + 2 ≤ x + 87 ∨ x + 87 + 224 ≤ x + 85) : Mu l yX9_charge cX9_charge 3 (some .int) 10 0 0 E [(x + 1, 28), (x + 85, 2), (x + 87, 224)] [.ref x, .int (zI d), .int (zI o)] (fun H => PR E x [(x, .inr (11, [.ref (x + 1), .ref (x + 29), .ref (x + 57), .ref (x + 85), .ref (x + 311), .ref (x + 314), .ref (x + 319), .ref (x + 332), .int (zI hs), .int (zI er), .int (zI fa), .int (zI ss)]))] H ∧ PR E (x + 1) (courtW E (x + 1) co) H ∧ PR E (x + 85) [(x + 85, .inr (7, [.ref (x + 86), .int (zI nx), .int (zI sz)])), (x + 86, .inl (E 102 3, 8, .inr (.inr (.inr (.inr (hisA (x + 87) 8))))))] H ∧ HF E (x + 87) 8 hc H) (fun rv H => rv = some (.int (zI (opV co 0 d o 0 0))) ∧ PR E (x + 1) (courtW E (x + 1) (opC co 0 d o 0 0)) H ∧ PR E (x + 85) [(x + 85, .inr (7, [.ref (x + 86), .int (zI (if nx < 7 then nx + 1 else 0)), .int (zI (min (sz + 1) 8))])), (x + 86, .inl (E 102 3, 8, .inr (.inr (.inr (.inr (hisA (x + 87) 8))))))] H ∧ HF E (x + 87) 8 (fun j => if j = nx.toNat then co else hc j) H) := by
  refine Mu.start (own := RX9) rfl (by decide +kernel) (Nat.le_of_ble_eq_true rfl) ?_
  intro p e s m below meth cd args Q hQ X hr hlk hnm hM hPr
  obtain ⟨h_cm, h_co, h_hi, h_hf⟩ := hPr
  have hb0 := hO.b0
  have hbw := hO.bw
  refine v_aload_n X dX9_charge_0 1 rfl 0 rfl ?_
  refine v_iconst X dX9_charge_1 2 rfl ?_
  refine v_iload_n X dX9_charge_2 3 rfl 1 rfl ?_
  refine v_iload_n X dX9_charge_3 4 rfl 2 rfl ?_
  refine v_iconst X dX9_charge_4 5 rfl ?_
  refine v_iconst X dX9_charge_5 6 rfl ?_
  refine v_muV X hM (h_cm.1) (c_X9_change l E x co hs er fa ss 0 d o 0 0 hc nx sz hO (by omega) gd go (by omega) (by omega) hf n0 n1 s0 s1 hd_cm_co hd_cm_hi hd_cm_hf hd_co_hi hd_co_hf hd_hi_hf) kvX9_change kiX9_change kl_X9_71 (q0 := 0) rfl rfl (As := [.int (zI 0), .int (zI d), .int (zI o), .int (zI 0), .int (zI 0)]) rfl rfl rfl dX9_charge_6 9 rfl (k' := 0) (n' := 0) rfl rfl (by intro q hq; simp only [Fr, Fs, or_false, false_or] at hq ⊢; omega) ⟨h_cm, h_co, h_hi, h_hf⟩ (fun rv H1 lo1 hM hF hpo => ?_)
  obtain ⟨rfl, hw_0, hw_1, hw_2⟩ := hpo
  have h_co : PR E (x + 1) (courtW E (x + 1) (opC co 0 d o 0 0)) H1 := hw_0
  have h_hi : PR E (x + 85) [(x + 85, .inr (7, [.ref (x + 86), .int (zI (if nx < 7 then nx + 1 else 0)), .int (zI (min (sz + 1) 8))])), (x + 86, .inl (E 102 3, 8, .inr (.inr (.inr (.inr (hisA (x + 87) 8))))))] H1 := hw_1
  have h_hf : HF E (x + 87) 8 (fun j => if j = nx.toNat then co else hc j) H1 := hw_2
  replace h_cm := h_cm.kept hF 1 rfl (by intro q q1 q2 q3; simp only [Fs, or_false] at q3; omega)
  show V p l e (rmL 10 0 0) s m args below meth cd Q 3 H1 lo1 0 0 9 [(0, .ref x), (1, .int (zI d)), (2, .int (zI o))] [.int (zI (opV co 0 d o 0 0))]
  subst hQ; exact m_iret X hr hlk hM dX9_charge_9 rfl ⟨rfl, h_co, h_hi, h_hf⟩
set_option maxHeartbeats 4000000 in
set_option maxRecDepth 20000 in
theorem x_X9_charge_2 (l : Launch) (hl : l.stackTraces = false) (E : Nat → Nat → Nat) (x : Nat) (co : Nat → Int → Int) (hs : Int) (er : Int) (fa : Int) (ss : Int) (d : Int) (o : Int) (hO : OkC co) (gd : Rg d) (go : Rg o) (hf : flC co 0 d o 0 = 2) : Tx l yX9_charge cX9_charge 3 (some .int) 10 1 6 E [] [.ref x, .int (zI d), .int (zI o)] (fun H => PR E x [(x, .inr (11, [.ref (x + 1), .ref (x + 29), .ref (x + 57), .ref (x + 85), .ref (x + 311), .ref (x + 314), .ref (x + 319), .ref (x + 332), .int (zI hs), .int (zI er), .int (zI fa), .int (zI ss)]))] H ∧ PR E (x + 1) (courtW E (x + 1) co) H) "java/lang/IllegalArgumentException" (fun H => True) := by
  refine Tx.start (own := RX9) rfl (by decide +kernel) (Nat.le_of_ble_eq_true rfl) ?_
  intro p e s m below meth cd args Q hQ X tb hlk hM hPr
  obtain ⟨h_cm, h_co⟩ := hPr
  have hb0 := hO.b0
  have hbw := hO.bw
  refine v_aload_n X dX9_charge_0 1 rfl 0 rfl ?_
  refine v_iconst X dX9_charge_1 2 rfl ?_
  refine v_iload_n X dX9_charge_2 3 rfl 1 rfl ?_
  refine v_iload_n X dX9_charge_3 4 rfl 2 rfl ?_
  refine v_iconst X dX9_charge_4 5 rfl ?_
  refine v_iconst X dX9_charge_5 6 rfl ?_
  subst hQ; exact v_txV X tb hlk hM (h_cm.1) (x_X9_change_2 l hl E x co hs er fa ss 0 d o 0 0 hO (by omega) gd go (by omega) hf) kvX9_change kiX9_change kl_X9_71 (q0 := 0) rfl rfl (As := [.int (zI 0), .int (zI d), .int (zI o), .int (zI 0), .int (zI 0)]) rfl rfl rfl rfl dX9_charge_6 (fun q hq => hq.elim) ⟨h_cm, h_co⟩ (fun H1 hF hpo => trivial)
set_option maxHeartbeats 4000000 in
set_option maxRecDepth 20000 in
theorem x_X9_charge_4 (l : Launch) (hl : l.stackTraces = false) (E : Nat → Nat → Nat) (x : Nat) (co : Nat → Int → Int) (hs : Int) (er : Int) (fa : Int) (ss : Int) (d : Int) (o : Int) (hO : OkC co) (gd : Rg d) (go : Rg o) (hf : flC co 0 d o 0 = 4) : Tx l yX9_charge cX9_charge 3 (some .int) 10 1 6 E [] [.ref x, .int (zI d), .int (zI o)] (fun H => PR E x [(x, .inr (11, [.ref (x + 1), .ref (x + 29), .ref (x + 57), .ref (x + 85), .ref (x + 311), .ref (x + 314), .ref (x + 319), .ref (x + 332), .int (zI hs), .int (zI er), .int (zI fa), .int (zI ss)]))] H ∧ PR E (x + 1) (courtW E (x + 1) co) H) "java/lang/IllegalStateException" (fun H => True) := by
  refine Tx.start (own := RX9) rfl (by decide +kernel) (Nat.le_of_ble_eq_true rfl) ?_
  intro p e s m below meth cd args Q hQ X tb hlk hM hPr
  obtain ⟨h_cm, h_co⟩ := hPr
  have hb0 := hO.b0
  have hbw := hO.bw
  refine v_aload_n X dX9_charge_0 1 rfl 0 rfl ?_
  refine v_iconst X dX9_charge_1 2 rfl ?_
  refine v_iload_n X dX9_charge_2 3 rfl 1 rfl ?_
  refine v_iload_n X dX9_charge_3 4 rfl 2 rfl ?_
  refine v_iconst X dX9_charge_4 5 rfl ?_
  refine v_iconst X dX9_charge_5 6 rfl ?_
  subst hQ; exact v_txV X tb hlk hM (h_cm.1) (x_X9_change_4 l hl E x co hs er fa ss 0 d o 0 0 hO (by omega) gd go (by omega) hf) kvX9_change kiX9_change kl_X9_71 (q0 := 0) rfl rfl (As := [.int (zI 0), .int (zI d), .int (zI o), .int (zI 0), .int (zI 0)]) rfl rfl rfl rfl dX9_charge_6 (fun q hq => hq.elim) ⟨h_cm, h_co⟩ (fun H1 hF hpo => trivial)
set_option maxHeartbeats 4000000 in
set_option maxRecDepth 20000 in
theorem c_X9_addWitness (l : Launch) (E : Nat → Nat → Nat) (x : Nat) (co : Nat → Int → Int) (hs : Int) (er : Int) (fa : Int) (ss : Int) (v : Int) (hc : Nat → Nat → Int → Int) (nx : Int) (sz : Int) (hO : OkC co) (gv : Rg v) (hf : flC co 1 v 0 0 = 0) (n0 : 0 ≤ nx) (n1 : nx < 8) (s0 : 0 ≤ sz) (s1 : sz ≤ 8) (hd_cm_co : x + 1 ≤ x + 1 ∨ x + 1 + 28 ≤ x) (hd_cm_hi : x + 1 ≤ x + 85 ∨ x + 85 + 2 ≤ x) (hd_cm_hf : x + 1 ≤ x + 87 ∨ x + 87 + 224 ≤ x) (hd_co_hi : x + 1 + 28 ≤ x + 85 ∨ x + 85 + 2 ≤ x + 1) (hd_co_hf : x + 1 + 28 ≤ x + 87 ∨ x + 87 + 224 ≤ x + 1) (hd_hi_hf : x + 85 + 2 ≤ x + 87 ∨ x + 87 + 224 ≤ x + 85) : Mu l yX9_addWitness cX9_addWitness 2 (some .int) 10 0 0 E [(x + 1, 28), (x + 85, 2), (x + 87, 224)] [.ref x, .int (zI v)] (fun H => PR E x [(x, .inr (11, [.ref (x + 1), .ref (x + 29), .ref (x + 57), .ref (x + 85), .ref (x + 311), .ref (x + 314), .ref (x + 319), .ref (x + 332), .int (zI hs), .int (zI er), .int (zI fa), .int (zI ss)]))] H ∧ PR E (x + 1) (courtW E (x + 1) co) H ∧ PR E (x + 85) [(x + 85, .inr (7, [.ref (x + 86), .int (zI nx), .int (zI sz)])), (x + 86, .inl (E 102 3, 8, .inr (.inr (.inr (.inr (hisA (x + 87) 8))))))] H ∧ HF E (x + 87) 8 hc H) (fun rv H => rv = some (.int (zI (opV co 1 v 0 0 0))) ∧ PR E (x + 1) (courtW E (x + 1) (opC co 1 v 0 0 0)) H ∧ PR E (x + 85) [(x + 85, .inr (7, [.ref (x + 86), .int (zI (if nx < 7 then nx + 1 else 0)), .int (zI (min (sz + 1) 8))])), (x + 86, .inl (E 102 3, 8, .inr (.inr (.inr (.inr (hisA (x + 87) 8))))))] H ∧ HF E (x + 87) 8 (fun j => if j = nx.toNat then co else hc j) H) := by
  refine Mu.start (own := RX9) rfl (by decide +kernel) (Nat.le_of_ble_eq_true rfl) ?_
  intro p e s m below meth cd args Q hQ X hr hlk hnm hM hPr
  obtain ⟨h_cm, h_co, h_hi, h_hf⟩ := hPr
  have hb0 := hO.b0
  have hbw := hO.bw
  refine v_aload_n X dX9_addWitness_0 1 rfl 0 rfl ?_
  refine v_iconst X dX9_addWitness_1 2 rfl ?_
  refine v_iload_n X dX9_addWitness_2 3 rfl 1 rfl ?_
  refine v_iconst X dX9_addWitness_3 4 rfl ?_
  refine v_iconst X dX9_addWitness_4 5 rfl ?_
  refine v_iconst X dX9_addWitness_5 6 rfl ?_
  refine v_muV X hM (h_cm.1) (c_X9_change l E x co hs er fa ss 1 v 0 0 0 hc nx sz hO (by omega) gv (by omega) (by omega) (by omega) hf n0 n1 s0 s1 hd_cm_co hd_cm_hi hd_cm_hf hd_co_hi hd_co_hf hd_hi_hf) kvX9_change kiX9_change kl_X9_71 (q0 := 0) rfl rfl (As := [.int (zI 1), .int (zI v), .int (zI 0), .int (zI 0), .int (zI 0)]) rfl rfl rfl dX9_addWitness_6 9 rfl (k' := 0) (n' := 0) rfl rfl (by intro q hq; simp only [Fr, Fs, or_false, false_or] at hq ⊢; omega) ⟨h_cm, h_co, h_hi, h_hf⟩ (fun rv H1 lo1 hM hF hpo => ?_)
  obtain ⟨rfl, hw_0, hw_1, hw_2⟩ := hpo
  have h_co : PR E (x + 1) (courtW E (x + 1) (opC co 1 v 0 0 0)) H1 := hw_0
  have h_hi : PR E (x + 85) [(x + 85, .inr (7, [.ref (x + 86), .int (zI (if nx < 7 then nx + 1 else 0)), .int (zI (min (sz + 1) 8))])), (x + 86, .inl (E 102 3, 8, .inr (.inr (.inr (.inr (hisA (x + 87) 8))))))] H1 := hw_1
  have h_hf : HF E (x + 87) 8 (fun j => if j = nx.toNat then co else hc j) H1 := hw_2
  replace h_cm := h_cm.kept hF 1 rfl (by intro q q1 q2 q3; simp only [Fs, or_false] at q3; omega)
  show V p l e (rmL 10 0 0) s m args below meth cd Q 2 H1 lo1 0 0 9 [(0, .ref x), (1, .int (zI v))] [.int (zI (opV co 1 v 0 0 0))]
  have hb_2 := hO.b1 v
  subst hQ; exact m_iret X hr hlk hM dX9_addWitness_9 rfl ⟨rfl, h_co, h_hi, h_hf⟩
set_option maxHeartbeats 4000000 in
set_option maxRecDepth 20000 in
theorem x_X9_addWitness_2 (l : Launch) (hl : l.stackTraces = false) (E : Nat → Nat → Nat) (x : Nat) (co : Nat → Int → Int) (hs : Int) (er : Int) (fa : Int) (ss : Int) (v : Int) (hO : OkC co) (gv : Rg v) (hf : flC co 1 v 0 0 = 2) : Tx l yX9_addWitness cX9_addWitness 2 (some .int) 10 1 6 E [] [.ref x, .int (zI v)] (fun H => PR E x [(x, .inr (11, [.ref (x + 1), .ref (x + 29), .ref (x + 57), .ref (x + 85), .ref (x + 311), .ref (x + 314), .ref (x + 319), .ref (x + 332), .int (zI hs), .int (zI er), .int (zI fa), .int (zI ss)]))] H ∧ PR E (x + 1) (courtW E (x + 1) co) H) "java/lang/IllegalArgumentException" (fun H => True) := by
  refine Tx.start (own := RX9) rfl (by decide +kernel) (Nat.le_of_ble_eq_true rfl) ?_
  intro p e s m below meth cd args Q hQ X tb hlk hM hPr
  obtain ⟨h_cm, h_co⟩ := hPr
  have hb0 := hO.b0
  have hbw := hO.bw
  refine v_aload_n X dX9_addWitness_0 1 rfl 0 rfl ?_
  refine v_iconst X dX9_addWitness_1 2 rfl ?_
  refine v_iload_n X dX9_addWitness_2 3 rfl 1 rfl ?_
  refine v_iconst X dX9_addWitness_3 4 rfl ?_
  refine v_iconst X dX9_addWitness_4 5 rfl ?_
  refine v_iconst X dX9_addWitness_5 6 rfl ?_
  subst hQ; exact v_txV X tb hlk hM (h_cm.1) (x_X9_change_2 l hl E x co hs er fa ss 1 v 0 0 0 hO (by omega) gv (by omega) (by omega) hf) kvX9_change kiX9_change kl_X9_71 (q0 := 0) rfl rfl (As := [.int (zI 1), .int (zI v), .int (zI 0), .int (zI 0), .int (zI 0)]) rfl rfl rfl rfl dX9_addWitness_6 (fun q hq => hq.elim) ⟨h_cm, h_co⟩ (fun H1 hF hpo => trivial)
set_option maxHeartbeats 4000000 in
set_option maxRecDepth 20000 in
theorem x_X9_addWitness_4 (l : Launch) (hl : l.stackTraces = false) (E : Nat → Nat → Nat) (x : Nat) (co : Nat → Int → Int) (hs : Int) (er : Int) (fa : Int) (ss : Int) (v : Int) (hO : OkC co) (gv : Rg v) (hf : flC co 1 v 0 0 = 4) : Tx l yX9_addWitness cX9_addWitness 2 (some .int) 10 1 6 E [] [.ref x, .int (zI v)] (fun H => PR E x [(x, .inr (11, [.ref (x + 1), .ref (x + 29), .ref (x + 57), .ref (x + 85), .ref (x + 311), .ref (x + 314), .ref (x + 319), .ref (x + 332), .int (zI hs), .int (zI er), .int (zI fa), .int (zI ss)]))] H ∧ PR E (x + 1) (courtW E (x + 1) co) H) "java/lang/IllegalStateException" (fun H => True) := by
  refine Tx.start (own := RX9) rfl (by decide +kernel) (Nat.le_of_ble_eq_true rfl) ?_
  intro p e s m below meth cd args Q hQ X tb hlk hM hPr
  obtain ⟨h_cm, h_co⟩ := hPr
  have hb0 := hO.b0
  have hbw := hO.bw
  refine v_aload_n X dX9_addWitness_0 1 rfl 0 rfl ?_
  refine v_iconst X dX9_addWitness_1 2 rfl ?_
  refine v_iload_n X dX9_addWitness_2 3 rfl 1 rfl ?_
  refine v_iconst X dX9_addWitness_3 4 rfl ?_
  refine v_iconst X dX9_addWitness_4 5 rfl ?_
  refine v_iconst X dX9_addWitness_5 6 rfl ?_
  subst hQ; exact v_txV X tb hlk hM (h_cm.1) (x_X9_change_4 l hl E x co hs er fa ss 1 v 0 0 0 hO (by omega) gv (by omega) (by omega) hf) kvX9_change kiX9_change kl_X9_71 (q0 := 0) rfl rfl (As := [.int (zI 1), .int (zI v), .int (zI 0), .int (zI 0), .int (zI 0)]) rfl rfl rfl rfl dX9_addWitness_6 (fun q hq => hq.elim) ⟨h_cm, h_co⟩ (fun H1 hF hpo => trivial)
set_option maxHeartbeats 4000000 in
set_option maxRecDepth 20000 in
theorem c_X9_testify (l : Launch) (E : Nat → Nat → Nat) (x : Nat) (co : Nat → Int → Int) (hs : Int) (er : Int) (fa : Int) (ss : Int) (k : Int) (w : Int) (f : Int) (z : Int) (hc : Nat → Nat → Int → Int) (nx : Int) (sz : Int) (hO : OkC co) (gk : Rg k) (gw : Rg w) (gz : Rg z) (gf : 0 ≤ f ∧ f ≤ 1) (hf : flC co 2 k w z = 0) (n0 : 0 ≤ nx) (n1 : nx < 8) (s0 : 0 ≤ sz) (s1 : sz ≤ 8) (hd_cm_co : x + 1 ≤ x + 1 ∨ x + 1 + 28 ≤ x) (hd_cm_hi : x + 1 ≤ x + 85 ∨ x + 85 + 2 ≤ x) (hd_cm_hf : x + 1 ≤ x + 87 ∨ x + 87 + 224 ≤ x) (hd_co_hi : x + 1 + 28 ≤ x + 85 ∨ x + 85 + 2 ≤ x + 1) (hd_co_hf : x + 1 + 28 ≤ x + 87 ∨ x + 87 + 224 ≤ x + 1) (hd_hi_hf : x + 85 + 2 ≤ x + 87 ∨ x + 87 + 224 ≤ x + 85) : Mu l yX9_testify cX9_testify 5 (some .int) 10 0 0 E [(x + 1, 28), (x + 85, 2), (x + 87, 224)] [.ref x, .int (zI k), .int (zI w), .int (zI f), .int (zI z)] (fun H => PR E x [(x, .inr (11, [.ref (x + 1), .ref (x + 29), .ref (x + 57), .ref (x + 85), .ref (x + 311), .ref (x + 314), .ref (x + 319), .ref (x + 332), .int (zI hs), .int (zI er), .int (zI fa), .int (zI ss)]))] H ∧ PR E (x + 1) (courtW E (x + 1) co) H ∧ PR E (x + 85) [(x + 85, .inr (7, [.ref (x + 86), .int (zI nx), .int (zI sz)])), (x + 86, .inl (E 102 3, 8, .inr (.inr (.inr (.inr (hisA (x + 87) 8))))))] H ∧ HF E (x + 87) 8 hc H) (fun rv H => rv = some (.int (zI (opV co 2 k w f z))) ∧ PR E (x + 1) (courtW E (x + 1) (opC co 2 k w f z)) H ∧ PR E (x + 85) [(x + 85, .inr (7, [.ref (x + 86), .int (zI (if nx < 7 then nx + 1 else 0)), .int (zI (min (sz + 1) 8))])), (x + 86, .inl (E 102 3, 8, .inr (.inr (.inr (.inr (hisA (x + 87) 8))))))] H ∧ HF E (x + 87) 8 (fun j => if j = nx.toNat then co else hc j) H) := by
  refine Mu.start (own := RX9) rfl (by decide +kernel) (Nat.le_of_ble_eq_true rfl) ?_
  intro p e s m below meth cd args Q hQ X hr hlk hnm hM hPr
  obtain ⟨h_cm, h_co, h_hi, h_hf⟩ := hPr
  have hb0 := hO.b0
  have hbw := hO.bw
  refine v_aload_n X dX9_testify_0 1 rfl 0 rfl ?_
  refine v_iconst X dX9_testify_1 2 rfl ?_
  refine v_iload_n X dX9_testify_2 3 rfl 1 rfl ?_
  refine v_iload_n X dX9_testify_3 4 rfl 2 rfl ?_
  refine v_iload_n X dX9_testify_4 5 rfl 3 rfl ?_
  refine v_iload X dX9_testify_5 7 rfl 4 rfl ?_
  refine v_muV X hM (h_cm.1) (c_X9_change l E x co hs er fa ss 2 k w f z hc nx sz hO (by omega) gk gw gz gf hf n0 n1 s0 s1 hd_cm_co hd_cm_hi hd_cm_hf hd_co_hi hd_co_hf hd_hi_hf) kvX9_change kiX9_change kl_X9_71 (q0 := 0) rfl rfl (As := [.int (zI 2), .int (zI k), .int (zI w), .int (zI f), .int (zI z)]) rfl rfl rfl dX9_testify_7 10 rfl (k' := 0) (n' := 0) rfl rfl (by intro q hq; simp only [Fr, Fs, or_false, false_or] at hq ⊢; omega) ⟨h_cm, h_co, h_hi, h_hf⟩ (fun rv H1 lo1 hM hF hpo => ?_)
  obtain ⟨rfl, hw_0, hw_1, hw_2⟩ := hpo
  have h_co : PR E (x + 1) (courtW E (x + 1) (opC co 2 k w f z)) H1 := hw_0
  have h_hi : PR E (x + 85) [(x + 85, .inr (7, [.ref (x + 86), .int (zI (if nx < 7 then nx + 1 else 0)), .int (zI (min (sz + 1) 8))])), (x + 86, .inl (E 102 3, 8, .inr (.inr (.inr (.inr (hisA (x + 87) 8))))))] H1 := hw_1
  have h_hf : HF E (x + 87) 8 (fun j => if j = nx.toNat then co else hc j) H1 := hw_2
  replace h_cm := h_cm.kept hF 1 rfl (by intro q q1 q2 q3; simp only [Fs, or_false] at q3; omega)
  show V p l e (rmL 10 0 0) s m args below meth cd Q 5 H1 lo1 0 0 10 [(0, .ref x), (1, .int (zI k)), (2, .int (zI w)), (3, .int (zI f)), (4, .int (zI z))] [.int (zI (opV co 2 k w f z))]
  have hb_2 := hO.b2 k
  subst hQ; exact m_iret X hr hlk hM dX9_testify_10 rfl ⟨rfl, h_co, h_hi, h_hf⟩
set_option maxHeartbeats 4000000 in
set_option maxRecDepth 20000 in
theorem x_X9_testify_1 (l : Launch) (hl : l.stackTraces = false) (E : Nat → Nat → Nat) (x : Nat) (co : Nat → Int → Int) (hs : Int) (er : Int) (fa : Int) (ss : Int) (k : Int) (w : Int) (f : Int) (z : Int) (hO : OkC co) (gk : Rg k) (gw : Rg w) (gz : Rg z) (gf : 0 ≤ f ∧ f ≤ 1) (hf : flC co 2 k w z = 1) : Tx l yX9_testify cX9_testify 5 (some .int) 10 1 6 E [] [.ref x, .int (zI k), .int (zI w), .int (zI f), .int (zI z)] (fun H => PR E x [(x, .inr (11, [.ref (x + 1), .ref (x + 29), .ref (x + 57), .ref (x + 85), .ref (x + 311), .ref (x + 314), .ref (x + 319), .ref (x + 332), .int (zI hs), .int (zI er), .int (zI fa), .int (zI ss)]))] H ∧ PR E (x + 1) (courtW E (x + 1) co) H) "java/lang/IndexOutOfBoundsException" (fun H => True) := by
  refine Tx.start (own := RX9) rfl (by decide +kernel) (Nat.le_of_ble_eq_true rfl) ?_
  intro p e s m below meth cd args Q hQ X tb hlk hM hPr
  obtain ⟨h_cm, h_co⟩ := hPr
  have hb0 := hO.b0
  have hbw := hO.bw
  refine v_aload_n X dX9_testify_0 1 rfl 0 rfl ?_
  refine v_iconst X dX9_testify_1 2 rfl ?_
  refine v_iload_n X dX9_testify_2 3 rfl 1 rfl ?_
  refine v_iload_n X dX9_testify_3 4 rfl 2 rfl ?_
  refine v_iload_n X dX9_testify_4 5 rfl 3 rfl ?_
  refine v_iload X dX9_testify_5 7 rfl 4 rfl ?_
  subst hQ; exact v_txV X tb hlk hM (h_cm.1) (x_X9_change_1 l hl E x co hs er fa ss 2 k w f z hO (by omega) gk gw gz hf) kvX9_change kiX9_change kl_X9_71 (q0 := 0) rfl rfl (As := [.int (zI 2), .int (zI k), .int (zI w), .int (zI f), .int (zI z)]) rfl rfl rfl rfl dX9_testify_7 (fun q hq => hq.elim) ⟨h_cm, h_co⟩ (fun H1 hF hpo => trivial)
set_option maxHeartbeats 4000000 in
set_option maxRecDepth 20000 in
theorem x_X9_testify_2 (l : Launch) (hl : l.stackTraces = false) (E : Nat → Nat → Nat) (x : Nat) (co : Nat → Int → Int) (hs : Int) (er : Int) (fa : Int) (ss : Int) (k : Int) (w : Int) (f : Int) (z : Int) (hO : OkC co) (gk : Rg k) (gw : Rg w) (gz : Rg z) (gf : 0 ≤ f ∧ f ≤ 1) (hf : flC co 2 k w z = 2) : Tx l yX9_testify cX9_testify 5 (some .int) 10 1 6 E [] [.ref x, .int (zI k), .int (zI w), .int (zI f), .int (zI z)] (fun H => PR E x [(x, .inr (11, [.ref (x + 1), .ref (x + 29), .ref (x + 57), .ref (x + 85), .ref (x + 311), .ref (x + 314), .ref (x + 319), .ref (x + 332), .int (zI hs), .int (zI er), .int (zI fa), .int (zI ss)]))] H ∧ PR E (x + 1) (courtW E (x + 1) co) H) "java/lang/IllegalArgumentException" (fun H => True) := by
  refine Tx.start (own := RX9) rfl (by decide +kernel) (Nat.le_of_ble_eq_true rfl) ?_
  intro p e s m below meth cd args Q hQ X tb hlk hM hPr
  obtain ⟨h_cm, h_co⟩ := hPr
  have hb0 := hO.b0
  have hbw := hO.bw
  refine v_aload_n X dX9_testify_0 1 rfl 0 rfl ?_
  refine v_iconst X dX9_testify_1 2 rfl ?_
  refine v_iload_n X dX9_testify_2 3 rfl 1 rfl ?_
  refine v_iload_n X dX9_testify_3 4 rfl 2 rfl ?_
  refine v_iload_n X dX9_testify_4 5 rfl 3 rfl ?_
  refine v_iload X dX9_testify_5 7 rfl 4 rfl ?_
  subst hQ; exact v_txV X tb hlk hM (h_cm.1) (x_X9_change_2 l hl E x co hs er fa ss 2 k w f z hO (by omega) gk gw gz hf) kvX9_change kiX9_change kl_X9_71 (q0 := 0) rfl rfl (As := [.int (zI 2), .int (zI k), .int (zI w), .int (zI f), .int (zI z)]) rfl rfl rfl rfl dX9_testify_7 (fun q hq => hq.elim) ⟨h_cm, h_co⟩ (fun H1 hF hpo => trivial)
set_option maxHeartbeats 4000000 in
set_option maxRecDepth 20000 in
theorem x_X9_testify_4 (l : Launch) (hl : l.stackTraces = false) (E : Nat → Nat → Nat) (x : Nat) (co : Nat → Int → Int) (hs : Int) (er : Int) (fa : Int) (ss : Int) (k : Int) (w : Int) (f : Int) (z : Int) (hO : OkC co) (gk : Rg k) (gw : Rg w) (gz : Rg z) (gf : 0 ≤ f ∧ f ≤ 1) (hf : flC co 2 k w z = 4) : Tx l yX9_testify cX9_testify 5 (some .int) 10 1 6 E [] [.ref x, .int (zI k), .int (zI w), .int (zI f), .int (zI z)] (fun H => PR E x [(x, .inr (11, [.ref (x + 1), .ref (x + 29), .ref (x + 57), .ref (x + 85), .ref (x + 311), .ref (x + 314), .ref (x + 319), .ref (x + 332), .int (zI hs), .int (zI er), .int (zI fa), .int (zI ss)]))] H ∧ PR E (x + 1) (courtW E (x + 1) co) H) "java/lang/IllegalStateException" (fun H => True) := by
  refine Tx.start (own := RX9) rfl (by decide +kernel) (Nat.le_of_ble_eq_true rfl) ?_
  intro p e s m below meth cd args Q hQ X tb hlk hM hPr
  obtain ⟨h_cm, h_co⟩ := hPr
  have hb0 := hO.b0
  have hbw := hO.bw
  refine v_aload_n X dX9_testify_0 1 rfl 0 rfl ?_
  refine v_iconst X dX9_testify_1 2 rfl ?_
  refine v_iload_n X dX9_testify_2 3 rfl 1 rfl ?_
  refine v_iload_n X dX9_testify_3 4 rfl 2 rfl ?_
  refine v_iload_n X dX9_testify_4 5 rfl 3 rfl ?_
  refine v_iload X dX9_testify_5 7 rfl 4 rfl ?_
  subst hQ; exact v_txV X tb hlk hM (h_cm.1) (x_X9_change_4 l hl E x co hs er fa ss 2 k w f z hO (by omega) gk gw gz hf) kvX9_change kiX9_change kl_X9_71 (q0 := 0) rfl rfl (As := [.int (zI 2), .int (zI k), .int (zI w), .int (zI f), .int (zI z)]) rfl rfl rfl rfl dX9_testify_7 (fun q hq => hq.elim) ⟨h_cm, h_co⟩ (fun H1 hF hpo => trivial)
set_option maxHeartbeats 4000000 in
set_option maxRecDepth 20000 in
theorem c_X9_question (l : Launch) (E : Nat → Nat → Nat) (x : Nat) (co : Nat → Int → Int) (hs : Int) (er : Int) (fa : Int) (ss : Int) (k : Int) (w : Int) (f : Int) (hc : Nat → Nat → Int → Int) (nx : Int) (sz : Int) (hO : OkC co) (gk : Rg k) (gw : Rg w) (gf : 0 ≤ f ∧ f ≤ 1) (hf : flC co 3 k w 0 = 0) (n0 : 0 ≤ nx) (n1 : nx < 8) (s0 : 0 ≤ sz) (s1 : sz ≤ 8) (hd_cm_co : x + 1 ≤ x + 1 ∨ x + 1 + 28 ≤ x) (hd_cm_hi : x + 1 ≤ x + 85 ∨ x + 85 + 2 ≤ x) (hd_cm_hf : x + 1 ≤ x + 87 ∨ x + 87 + 224 ≤ x) (hd_co_hi : x + 1 + 28 ≤ x + 85 ∨ x + 85 + 2 ≤ x + 1) (hd_co_hf : x + 1 + 28 ≤ x + 87 ∨ x + 87 + 224 ≤ x + 1) (hd_hi_hf : x + 85 + 2 ≤ x + 87 ∨ x + 87 + 224 ≤ x + 85) : Mu l yX9_question cX9_question 4 (some .int) 10 0 0 E [(x + 1, 28), (x + 85, 2), (x + 87, 224)] [.ref x, .int (zI k), .int (zI w), .int (zI f)] (fun H => PR E x [(x, .inr (11, [.ref (x + 1), .ref (x + 29), .ref (x + 57), .ref (x + 85), .ref (x + 311), .ref (x + 314), .ref (x + 319), .ref (x + 332), .int (zI hs), .int (zI er), .int (zI fa), .int (zI ss)]))] H ∧ PR E (x + 1) (courtW E (x + 1) co) H ∧ PR E (x + 85) [(x + 85, .inr (7, [.ref (x + 86), .int (zI nx), .int (zI sz)])), (x + 86, .inl (E 102 3, 8, .inr (.inr (.inr (.inr (hisA (x + 87) 8))))))] H ∧ HF E (x + 87) 8 hc H) (fun rv H => rv = some (.int (zI (opV co 3 k w f 0))) ∧ PR E (x + 1) (courtW E (x + 1) (opC co 3 k w f 0)) H ∧ PR E (x + 85) [(x + 85, .inr (7, [.ref (x + 86), .int (zI (if nx < 7 then nx + 1 else 0)), .int (zI (min (sz + 1) 8))])), (x + 86, .inl (E 102 3, 8, .inr (.inr (.inr (.inr (hisA (x + 87) 8))))))] H ∧ HF E (x + 87) 8 (fun j => if j = nx.toNat then co else hc j) H) := by
  refine Mu.start (own := RX9) rfl (by decide +kernel) (Nat.le_of_ble_eq_true rfl) ?_
  intro p e s m below meth cd args Q hQ X hr hlk hnm hM hPr
  obtain ⟨h_cm, h_co, h_hi, h_hf⟩ := hPr
  have hb0 := hO.b0
  have hbw := hO.bw
  refine v_aload_n X dX9_question_0 1 rfl 0 rfl ?_
  refine v_iconst X dX9_question_1 2 rfl ?_
  refine v_iload_n X dX9_question_2 3 rfl 1 rfl ?_
  refine v_iload_n X dX9_question_3 4 rfl 2 rfl ?_
  refine v_iload_n X dX9_question_4 5 rfl 3 rfl ?_
  refine v_iconst X dX9_question_5 6 rfl ?_
  refine v_muV X hM (h_cm.1) (c_X9_change l E x co hs er fa ss 3 k w f 0 hc nx sz hO (by omega) gk gw (by omega) gf hf n0 n1 s0 s1 hd_cm_co hd_cm_hi hd_cm_hf hd_co_hi hd_co_hf hd_hi_hf) kvX9_change kiX9_change kl_X9_71 (q0 := 0) rfl rfl (As := [.int (zI 3), .int (zI k), .int (zI w), .int (zI f), .int (zI 0)]) rfl rfl rfl dX9_question_6 9 rfl (k' := 0) (n' := 0) rfl rfl (by intro q hq; simp only [Fr, Fs, or_false, false_or] at hq ⊢; omega) ⟨h_cm, h_co, h_hi, h_hf⟩ (fun rv H1 lo1 hM hF hpo => ?_)
  obtain ⟨rfl, hw_0, hw_1, hw_2⟩ := hpo
  have h_co : PR E (x + 1) (courtW E (x + 1) (opC co 3 k w f 0)) H1 := hw_0
  have h_hi : PR E (x + 85) [(x + 85, .inr (7, [.ref (x + 86), .int (zI (if nx < 7 then nx + 1 else 0)), .int (zI (min (sz + 1) 8))])), (x + 86, .inl (E 102 3, 8, .inr (.inr (.inr (.inr (hisA (x + 87) 8))))))] H1 := hw_1
  have h_hf : HF E (x + 87) 8 (fun j => if j = nx.toNat then co else hc j) H1 := hw_2
  replace h_cm := h_cm.kept hF 1 rfl (by intro q q1 q2 q3; simp only [Fs, or_false] at q3; omega)
  show V p l e (rmL 10 0 0) s m args below meth cd Q 4 H1 lo1 0 0 9 [(0, .ref x), (1, .int (zI k)), (2, .int (zI w)), (3, .int (zI f))] [.int (zI (opV co 3 k w f 0))]
  have hb_2 := hO.b3 k
  subst hQ; exact m_iret X hr hlk hM dX9_question_9 rfl ⟨rfl, h_co, h_hi, h_hf⟩
set_option maxHeartbeats 4000000 in
set_option maxRecDepth 20000 in
theorem x_X9_question_1 (l : Launch) (hl : l.stackTraces = false) (E : Nat → Nat → Nat) (x : Nat) (co : Nat → Int → Int) (hs : Int) (er : Int) (fa : Int) (ss : Int) (k : Int) (w : Int) (f : Int) (hO : OkC co) (gk : Rg k) (gw : Rg w) (gf : 0 ≤ f ∧ f ≤ 1) (hf : flC co 3 k w 0 = 1) : Tx l yX9_question cX9_question 4 (some .int) 10 1 6 E [] [.ref x, .int (zI k), .int (zI w), .int (zI f)] (fun H => PR E x [(x, .inr (11, [.ref (x + 1), .ref (x + 29), .ref (x + 57), .ref (x + 85), .ref (x + 311), .ref (x + 314), .ref (x + 319), .ref (x + 332), .int (zI hs), .int (zI er), .int (zI fa), .int (zI ss)]))] H ∧ PR E (x + 1) (courtW E (x + 1) co) H) "java/lang/IndexOutOfBoundsException" (fun H => True) := by
  refine Tx.start (own := RX9) rfl (by decide +kernel) (Nat.le_of_ble_eq_true rfl) ?_
  intro p e s m below meth cd args Q hQ X tb hlk hM hPr
  obtain ⟨h_cm, h_co⟩ := hPr
  have hb0 := hO.b0
  have hbw := hO.bw
  refine v_aload_n X dX9_question_0 1 rfl 0 rfl ?_
  refine v_iconst X dX9_question_1 2 rfl ?_
  refine v_iload_n X dX9_question_2 3 rfl 1 rfl ?_
  refine v_iload_n X dX9_question_3 4 rfl 2 rfl ?_
  refine v_iload_n X dX9_question_4 5 rfl 3 rfl ?_
  refine v_iconst X dX9_question_5 6 rfl ?_
  subst hQ; exact v_txV X tb hlk hM (h_cm.1) (x_X9_change_1 l hl E x co hs er fa ss 3 k w f 0 hO (by omega) gk gw (by omega) hf) kvX9_change kiX9_change kl_X9_71 (q0 := 0) rfl rfl (As := [.int (zI 3), .int (zI k), .int (zI w), .int (zI f), .int (zI 0)]) rfl rfl rfl rfl dX9_question_6 (fun q hq => hq.elim) ⟨h_cm, h_co⟩ (fun H1 hF hpo => trivial)
set_option maxHeartbeats 4000000 in
set_option maxRecDepth 20000 in
theorem x_X9_question_3 (l : Launch) (hl : l.stackTraces = false) (E : Nat → Nat → Nat) (x : Nat) (co : Nat → Int → Int) (hs : Int) (er : Int) (fa : Int) (ss : Int) (k : Int) (w : Int) (f : Int) (hO : OkC co) (gk : Rg k) (gw : Rg w) (gf : 0 ≤ f ∧ f ≤ 1) (hf : flC co 3 k w 0 = 3) : Tx l yX9_question cX9_question 4 (some .int) 10 1 6 E [] [.ref x, .int (zI k), .int (zI w), .int (zI f)] (fun H => PR E x [(x, .inr (11, [.ref (x + 1), .ref (x + 29), .ref (x + 57), .ref (x + 85), .ref (x + 311), .ref (x + 314), .ref (x + 319), .ref (x + 332), .int (zI hs), .int (zI er), .int (zI fa), .int (zI ss)]))] H ∧ PR E (x + 1) (courtW E (x + 1) co) H) "java/util/NoSuchElementException" (fun H => True) := by
  refine Tx.start (own := RX9) rfl (by decide +kernel) (Nat.le_of_ble_eq_true rfl) ?_
  intro p e s m below meth cd args Q hQ X tb hlk hM hPr
  obtain ⟨h_cm, h_co⟩ := hPr
  have hb0 := hO.b0
  have hbw := hO.bw
  refine v_aload_n X dX9_question_0 1 rfl 0 rfl ?_
  refine v_iconst X dX9_question_1 2 rfl ?_
  refine v_iload_n X dX9_question_2 3 rfl 1 rfl ?_
  refine v_iload_n X dX9_question_3 4 rfl 2 rfl ?_
  refine v_iload_n X dX9_question_4 5 rfl 3 rfl ?_
  refine v_iconst X dX9_question_5 6 rfl ?_
  subst hQ; exact v_txV X tb hlk hM (h_cm.1) (x_X9_change_3 l hl E x co hs er fa ss 3 k w f 0 hO (by omega) gk gw (by omega) hf) kvX9_change kiX9_change kl_X9_71 (q0 := 0) rfl rfl (As := [.int (zI 3), .int (zI k), .int (zI w), .int (zI f), .int (zI 0)]) rfl rfl rfl rfl dX9_question_6 (fun q hq => hq.elim) ⟨h_cm, h_co⟩ (fun H1 hF hpo => trivial)
set_option maxHeartbeats 4000000 in
set_option maxRecDepth 20000 in
theorem x_X9_question_4 (l : Launch) (hl : l.stackTraces = false) (E : Nat → Nat → Nat) (x : Nat) (co : Nat → Int → Int) (hs : Int) (er : Int) (fa : Int) (ss : Int) (k : Int) (w : Int) (f : Int) (hO : OkC co) (gk : Rg k) (gw : Rg w) (gf : 0 ≤ f ∧ f ≤ 1) (hf : flC co 3 k w 0 = 4) : Tx l yX9_question cX9_question 4 (some .int) 10 1 6 E [] [.ref x, .int (zI k), .int (zI w), .int (zI f)] (fun H => PR E x [(x, .inr (11, [.ref (x + 1), .ref (x + 29), .ref (x + 57), .ref (x + 85), .ref (x + 311), .ref (x + 314), .ref (x + 319), .ref (x + 332), .int (zI hs), .int (zI er), .int (zI fa), .int (zI ss)]))] H ∧ PR E (x + 1) (courtW E (x + 1) co) H) "java/lang/IllegalStateException" (fun H => True) := by
  refine Tx.start (own := RX9) rfl (by decide +kernel) (Nat.le_of_ble_eq_true rfl) ?_
  intro p e s m below meth cd args Q hQ X tb hlk hM hPr
  obtain ⟨h_cm, h_co⟩ := hPr
  have hb0 := hO.b0
  have hbw := hO.bw
  refine v_aload_n X dX9_question_0 1 rfl 0 rfl ?_
  refine v_iconst X dX9_question_1 2 rfl ?_
  refine v_iload_n X dX9_question_2 3 rfl 1 rfl ?_
  refine v_iload_n X dX9_question_3 4 rfl 2 rfl ?_
  refine v_iload_n X dX9_question_4 5 rfl 3 rfl ?_
  refine v_iconst X dX9_question_5 6 rfl ?_
  subst hQ; exact v_txV X tb hlk hM (h_cm.1) (x_X9_change_4 l hl E x co hs er fa ss 3 k w f 0 hO (by omega) gk gw (by omega) hf) kvX9_change kiX9_change kl_X9_71 (q0 := 0) rfl rfl (As := [.int (zI 3), .int (zI k), .int (zI w), .int (zI f), .int (zI 0)]) rfl rfl rfl rfl dX9_question_6 (fun q hq => hq.elim) ⟨h_cm, h_co⟩ (fun H1 hF hpo => trivial)
set_option maxHeartbeats 4000000 in
set_option maxRecDepth 20000 in
theorem c_X9_decide (l : Launch) (E : Nat → Nat → Nat) (x : Nat) (co : Nat → Int → Int) (hs : Int) (er : Int) (fa : Int) (ss : Int) (k : Int) (hc : Nat → Nat → Int → Int) (nx : Int) (sz : Int) (hO : OkC co) (gk : Rg k) (hf : flC co 4 k 0 0 = 0) (n0 : 0 ≤ nx) (n1 : nx < 8) (s0 : 0 ≤ sz) (s1 : sz ≤ 8) (hd_cm_co : x + 1 ≤ x + 1 ∨ x + 1 + 28 ≤ x) (hd_cm_hi : x + 1 ≤ x + 85 ∨ x + 85 + 2 ≤ x) (hd_cm_hf : x + 1 ≤ x + 87 ∨ x + 87 + 224 ≤ x) (hd_co_hi : x + 1 + 28 ≤ x + 85 ∨ x + 85 + 2 ≤ x + 1) (hd_co_hf : x + 1 + 28 ≤ x + 87 ∨ x + 87 + 224 ≤ x + 1) (hd_hi_hf : x + 85 + 2 ≤ x + 87 ∨ x + 87 + 224 ≤ x + 85) : Mu l yX9_decide cX9_decide 2 (some .boolean) 10 0 0 E [(x + 1, 28), (x + 85, 2), (x + 87, 224)] [.ref x, .int (zI k)] (fun H => PR E x [(x, .inr (11, [.ref (x + 1), .ref (x + 29), .ref (x + 57), .ref (x + 85), .ref (x + 311), .ref (x + 314), .ref (x + 319), .ref (x + 332), .int (zI hs), .int (zI er), .int (zI fa), .int (zI ss)]))] H ∧ PR E (x + 1) (courtW E (x + 1) co) H ∧ PR E (x + 85) [(x + 85, .inr (7, [.ref (x + 86), .int (zI nx), .int (zI sz)])), (x + 86, .inl (E 102 3, 8, .inr (.inr (.inr (.inr (hisA (x + 87) 8))))))] H ∧ HF E (x + 87) 8 hc H) (fun rv H => rv = some (.int (zI (bz (¬ opV co 4 k 0 0 0 = 0)))) ∧ PR E (x + 1) (courtW E (x + 1) (opC co 4 k 0 0 0)) H ∧ PR E (x + 85) [(x + 85, .inr (7, [.ref (x + 86), .int (zI (if nx < 7 then nx + 1 else 0)), .int (zI (min (sz + 1) 8))])), (x + 86, .inl (E 102 3, 8, .inr (.inr (.inr (.inr (hisA (x + 87) 8))))))] H ∧ HF E (x + 87) 8 (fun j => if j = nx.toNat then co else hc j) H) := by
  refine Mu.start (own := RX9) rfl (by decide +kernel) (Nat.le_of_ble_eq_true rfl) ?_
  intro p e s m below meth cd args Q hQ X hr hlk hnm hM hPr
  obtain ⟨h_cm, h_co, h_hi, h_hf⟩ := hPr
  have hb0 := hO.b0
  have hbw := hO.bw
  have hov := opV4_b co k 0 0 0
  refine v_aload_n X dX9_decide_0 1 rfl 0 rfl ?_
  refine v_iconst X dX9_decide_1 2 rfl ?_
  refine v_iload_n X dX9_decide_2 3 rfl 1 rfl ?_
  refine v_iconst X dX9_decide_3 4 rfl ?_
  refine v_iconst X dX9_decide_4 5 rfl ?_
  refine v_iconst X dX9_decide_5 6 rfl ?_
  refine v_muV X hM (h_cm.1) (c_X9_change l E x co hs er fa ss 4 k 0 0 0 hc nx sz hO (by omega) gk (by omega) (by omega) (by omega) hf n0 n1 s0 s1 hd_cm_co hd_cm_hi hd_cm_hf hd_co_hi hd_co_hf hd_hi_hf) kvX9_change kiX9_change kl_X9_71 (q0 := 0) rfl rfl (As := [.int (zI 4), .int (zI k), .int (zI 0), .int (zI 0), .int (zI 0)]) rfl rfl rfl dX9_decide_6 9 rfl (k' := 0) (n' := 0) rfl rfl (by intro q hq; simp only [Fr, Fs, or_false, false_or] at hq ⊢; omega) ⟨h_cm, h_co, h_hi, h_hf⟩ (fun rv H1 lo1 hM hF hpo => ?_)
  obtain ⟨rfl, hw_0, hw_1, hw_2⟩ := hpo
  have h_co : PR E (x + 1) (courtW E (x + 1) (opC co 4 k 0 0 0)) H1 := hw_0
  have h_hi : PR E (x + 85) [(x + 85, .inr (7, [.ref (x + 86), .int (zI (if nx < 7 then nx + 1 else 0)), .int (zI (min (sz + 1) 8))])), (x + 86, .inl (E 102 3, 8, .inr (.inr (.inr (.inr (hisA (x + 87) 8))))))] H1 := hw_1
  have h_hf : HF E (x + 87) 8 (fun j => if j = nx.toNat then co else hc j) H1 := hw_2
  replace h_cm := h_cm.kept hF 1 rfl (by intro q q1 q2 q3; simp only [Fs, or_false] at q3; omega)
  show V p l e (rmL 10 0 0) s m args below meth cd Q 2 H1 lo1 0 0 9 [(0, .ref x), (1, .int (zI k))] [.int (zI (opV co 4 k 0 0 0))]
  have hb_2 := hO.b4 k
  refine v_if_eq X (by omega) dX9_decide_9 12 16 rfl (by decide) (fun c_3 => ?_) (fun c_3 => ?_)
  · skip
    refine v_iconst X dX9_decide_16 17 rfl ?_
    subst hQ; exact m_zret X hr hlk hM dX9_decide_17 rfl (by omega) ⟨(sv (bz_f (by omega))), h_co, h_hi, h_hf⟩
  · skip
    refine v_iconst X dX9_decide_12 13 rfl ?_
    refine v_goto X dX9_decide_13 17 (by decide) ?_
    subst hQ; exact m_zret X hr hlk hM dX9_decide_17 rfl (by omega) ⟨(sv (bz_t (by omega))), h_co, h_hi, h_hf⟩
set_option maxHeartbeats 4000000 in
set_option maxRecDepth 20000 in
theorem x_X9_decide_1 (l : Launch) (hl : l.stackTraces = false) (E : Nat → Nat → Nat) (x : Nat) (co : Nat → Int → Int) (hs : Int) (er : Int) (fa : Int) (ss : Int) (k : Int) (hO : OkC co) (gk : Rg k) (hf : flC co 4 k 0 0 = 1) : Tx l yX9_decide cX9_decide 2 (some .boolean) 10 1 6 E [] [.ref x, .int (zI k)] (fun H => PR E x [(x, .inr (11, [.ref (x + 1), .ref (x + 29), .ref (x + 57), .ref (x + 85), .ref (x + 311), .ref (x + 314), .ref (x + 319), .ref (x + 332), .int (zI hs), .int (zI er), .int (zI fa), .int (zI ss)]))] H ∧ PR E (x + 1) (courtW E (x + 1) co) H) "java/lang/IndexOutOfBoundsException" (fun H => True) := by
  refine Tx.start (own := RX9) rfl (by decide +kernel) (Nat.le_of_ble_eq_true rfl) ?_
  intro p e s m below meth cd args Q hQ X tb hlk hM hPr
  obtain ⟨h_cm, h_co⟩ := hPr
  have hb0 := hO.b0
  have hbw := hO.bw
  refine v_aload_n X dX9_decide_0 1 rfl 0 rfl ?_
  refine v_iconst X dX9_decide_1 2 rfl ?_
  refine v_iload_n X dX9_decide_2 3 rfl 1 rfl ?_
  refine v_iconst X dX9_decide_3 4 rfl ?_
  refine v_iconst X dX9_decide_4 5 rfl ?_
  refine v_iconst X dX9_decide_5 6 rfl ?_
  subst hQ; exact v_txV X tb hlk hM (h_cm.1) (x_X9_change_1 l hl E x co hs er fa ss 4 k 0 0 0 hO (by omega) gk (by omega) (by omega) hf) kvX9_change kiX9_change kl_X9_71 (q0 := 0) rfl rfl (As := [.int (zI 4), .int (zI k), .int (zI 0), .int (zI 0), .int (zI 0)]) rfl rfl rfl rfl dX9_decide_6 (fun q hq => hq.elim) ⟨h_cm, h_co⟩ (fun H1 hF hpo => trivial)
set_option maxHeartbeats 4000000 in
set_option maxRecDepth 20000 in
theorem x_X9_decide_4 (l : Launch) (hl : l.stackTraces = false) (E : Nat → Nat → Nat) (x : Nat) (co : Nat → Int → Int) (hs : Int) (er : Int) (fa : Int) (ss : Int) (k : Int) (hO : OkC co) (gk : Rg k) (hf : flC co 4 k 0 0 = 4) : Tx l yX9_decide cX9_decide 2 (some .boolean) 10 1 6 E [] [.ref x, .int (zI k)] (fun H => PR E x [(x, .inr (11, [.ref (x + 1), .ref (x + 29), .ref (x + 57), .ref (x + 85), .ref (x + 311), .ref (x + 314), .ref (x + 319), .ref (x + 332), .int (zI hs), .int (zI er), .int (zI fa), .int (zI ss)]))] H ∧ PR E (x + 1) (courtW E (x + 1) co) H) "java/lang/IllegalStateException" (fun H => True) := by
  refine Tx.start (own := RX9) rfl (by decide +kernel) (Nat.le_of_ble_eq_true rfl) ?_
  intro p e s m below meth cd args Q hQ X tb hlk hM hPr
  obtain ⟨h_cm, h_co⟩ := hPr
  have hb0 := hO.b0
  have hbw := hO.bw
  refine v_aload_n X dX9_decide_0 1 rfl 0 rfl ?_
  refine v_iconst X dX9_decide_1 2 rfl ?_
  refine v_iload_n X dX9_decide_2 3 rfl 1 rfl ?_
  refine v_iconst X dX9_decide_3 4 rfl ?_
  refine v_iconst X dX9_decide_4 5 rfl ?_
  refine v_iconst X dX9_decide_5 6 rfl ?_
  subst hQ; exact v_txV X tb hlk hM (h_cm.1) (x_X9_change_4 l hl E x co hs er fa ss 4 k 0 0 0 hO (by omega) gk (by omega) (by omega) hf) kvX9_change kiX9_change kl_X9_71 (q0 := 0) rfl rfl (As := [.int (zI 4), .int (zI k), .int (zI 0), .int (zI 0), .int (zI 0)]) rfl rfl rfl rfl dX9_decide_6 (fun q hq => hq.elim) ⟨h_cm, h_co⟩ (fun H1 hF hpo => trivial)
set_option maxHeartbeats 4000000 in
set_option maxRecDepth 20000 in
theorem c_X9_appeal (l : Launch) (E : Nat → Nat → Nat) (x : Nat) (co : Nat → Int → Int) (hs : Int) (er : Int) (fa : Int) (ss : Int) (k : Int) (hc : Nat → Nat → Int → Int) (nx : Int) (sz : Int) (hO : OkC co) (gk : Rg k) (hf : flC co 5 k 0 0 = 0) (n0 : 0 ≤ nx) (n1 : nx < 8) (s0 : 0 ≤ sz) (s1 : sz ≤ 8) (hd_cm_co : x + 1 ≤ x + 1 ∨ x + 1 + 28 ≤ x) (hd_cm_hi : x + 1 ≤ x + 85 ∨ x + 85 + 2 ≤ x) (hd_cm_hf : x + 1 ≤ x + 87 ∨ x + 87 + 224 ≤ x) (hd_co_hi : x + 1 + 28 ≤ x + 85 ∨ x + 85 + 2 ≤ x + 1) (hd_co_hf : x + 1 + 28 ≤ x + 87 ∨ x + 87 + 224 ≤ x + 1) (hd_hi_hf : x + 85 + 2 ≤ x + 87 ∨ x + 87 + 224 ≤ x + 85) : Mu l yX9_appeal cX9_appeal 2 (some .int) 10 0 0 E [(x + 1, 28), (x + 85, 2), (x + 87, 224)] [.ref x, .int (zI k)] (fun H => PR E x [(x, .inr (11, [.ref (x + 1), .ref (x + 29), .ref (x + 57), .ref (x + 85), .ref (x + 311), .ref (x + 314), .ref (x + 319), .ref (x + 332), .int (zI hs), .int (zI er), .int (zI fa), .int (zI ss)]))] H ∧ PR E (x + 1) (courtW E (x + 1) co) H ∧ PR E (x + 85) [(x + 85, .inr (7, [.ref (x + 86), .int (zI nx), .int (zI sz)])), (x + 86, .inl (E 102 3, 8, .inr (.inr (.inr (.inr (hisA (x + 87) 8))))))] H ∧ HF E (x + 87) 8 hc H) (fun rv H => rv = some (.int (zI (opV co 5 k 0 0 0))) ∧ PR E (x + 1) (courtW E (x + 1) (opC co 5 k 0 0 0)) H ∧ PR E (x + 85) [(x + 85, .inr (7, [.ref (x + 86), .int (zI (if nx < 7 then nx + 1 else 0)), .int (zI (min (sz + 1) 8))])), (x + 86, .inl (E 102 3, 8, .inr (.inr (.inr (.inr (hisA (x + 87) 8))))))] H ∧ HF E (x + 87) 8 (fun j => if j = nx.toNat then co else hc j) H) := by
  refine Mu.start (own := RX9) rfl (by decide +kernel) (Nat.le_of_ble_eq_true rfl) ?_
  intro p e s m below meth cd args Q hQ X hr hlk hnm hM hPr
  obtain ⟨h_cm, h_co, h_hi, h_hf⟩ := hPr
  have hb0 := hO.b0
  have hbw := hO.bw
  refine v_aload_n X dX9_appeal_0 1 rfl 0 rfl ?_
  refine v_iconst X dX9_appeal_1 2 rfl ?_
  refine v_iload_n X dX9_appeal_2 3 rfl 1 rfl ?_
  refine v_iconst X dX9_appeal_3 4 rfl ?_
  refine v_iconst X dX9_appeal_4 5 rfl ?_
  refine v_iconst X dX9_appeal_5 6 rfl ?_
  refine v_muV X hM (h_cm.1) (c_X9_change l E x co hs er fa ss 5 k 0 0 0 hc nx sz hO (by omega) gk (by omega) (by omega) (by omega) hf n0 n1 s0 s1 hd_cm_co hd_cm_hi hd_cm_hf hd_co_hi hd_co_hf hd_hi_hf) kvX9_change kiX9_change kl_X9_71 (q0 := 0) rfl rfl (As := [.int (zI 5), .int (zI k), .int (zI 0), .int (zI 0), .int (zI 0)]) rfl rfl rfl dX9_appeal_6 9 rfl (k' := 0) (n' := 0) rfl rfl (by intro q hq; simp only [Fr, Fs, or_false, false_or] at hq ⊢; omega) ⟨h_cm, h_co, h_hi, h_hf⟩ (fun rv H1 lo1 hM hF hpo => ?_)
  obtain ⟨rfl, hw_0, hw_1, hw_2⟩ := hpo
  have h_co : PR E (x + 1) (courtW E (x + 1) (opC co 5 k 0 0 0)) H1 := hw_0
  have h_hi : PR E (x + 85) [(x + 85, .inr (7, [.ref (x + 86), .int (zI (if nx < 7 then nx + 1 else 0)), .int (zI (min (sz + 1) 8))])), (x + 86, .inl (E 102 3, 8, .inr (.inr (.inr (.inr (hisA (x + 87) 8))))))] H1 := hw_1
  have h_hf : HF E (x + 87) 8 (fun j => if j = nx.toNat then co else hc j) H1 := hw_2
  replace h_cm := h_cm.kept hF 1 rfl (by intro q q1 q2 q3; simp only [Fs, or_false] at q3; omega)
  show V p l e (rmL 10 0 0) s m args below meth cd Q 2 H1 lo1 0 0 9 [(0, .ref x), (1, .int (zI k))] [.int (zI (opV co 5 k 0 0 0))]
  have hb_2 := hO.b5 k
  subst hQ; exact m_iret X hr hlk hM dX9_appeal_9 rfl ⟨rfl, h_co, h_hi, h_hf⟩
set_option maxHeartbeats 4000000 in
set_option maxRecDepth 20000 in
theorem x_X9_appeal_1 (l : Launch) (hl : l.stackTraces = false) (E : Nat → Nat → Nat) (x : Nat) (co : Nat → Int → Int) (hs : Int) (er : Int) (fa : Int) (ss : Int) (k : Int) (hO : OkC co) (gk : Rg k) (hf : flC co 5 k 0 0 = 1) : Tx l yX9_appeal cX9_appeal 2 (some .int) 10 1 6 E [] [.ref x, .int (zI k)] (fun H => PR E x [(x, .inr (11, [.ref (x + 1), .ref (x + 29), .ref (x + 57), .ref (x + 85), .ref (x + 311), .ref (x + 314), .ref (x + 319), .ref (x + 332), .int (zI hs), .int (zI er), .int (zI fa), .int (zI ss)]))] H ∧ PR E (x + 1) (courtW E (x + 1) co) H) "java/lang/IndexOutOfBoundsException" (fun H => True) := by
  refine Tx.start (own := RX9) rfl (by decide +kernel) (Nat.le_of_ble_eq_true rfl) ?_
  intro p e s m below meth cd args Q hQ X tb hlk hM hPr
  obtain ⟨h_cm, h_co⟩ := hPr
  have hb0 := hO.b0
  have hbw := hO.bw
  refine v_aload_n X dX9_appeal_0 1 rfl 0 rfl ?_
  refine v_iconst X dX9_appeal_1 2 rfl ?_
  refine v_iload_n X dX9_appeal_2 3 rfl 1 rfl ?_
  refine v_iconst X dX9_appeal_3 4 rfl ?_
  refine v_iconst X dX9_appeal_4 5 rfl ?_
  refine v_iconst X dX9_appeal_5 6 rfl ?_
  subst hQ; exact v_txV X tb hlk hM (h_cm.1) (x_X9_change_1 l hl E x co hs er fa ss 5 k 0 0 0 hO (by omega) gk (by omega) (by omega) hf) kvX9_change kiX9_change kl_X9_71 (q0 := 0) rfl rfl (As := [.int (zI 5), .int (zI k), .int (zI 0), .int (zI 0), .int (zI 0)]) rfl rfl rfl rfl dX9_appeal_6 (fun q hq => hq.elim) ⟨h_cm, h_co⟩ (fun H1 hF hpo => trivial)
set_option maxHeartbeats 4000000 in
set_option maxRecDepth 20000 in
theorem x_X9_appeal_4 (l : Launch) (hl : l.stackTraces = false) (E : Nat → Nat → Nat) (x : Nat) (co : Nat → Int → Int) (hs : Int) (er : Int) (fa : Int) (ss : Int) (k : Int) (hO : OkC co) (gk : Rg k) (hf : flC co 5 k 0 0 = 4) : Tx l yX9_appeal cX9_appeal 2 (some .int) 10 1 6 E [] [.ref x, .int (zI k)] (fun H => PR E x [(x, .inr (11, [.ref (x + 1), .ref (x + 29), .ref (x + 57), .ref (x + 85), .ref (x + 311), .ref (x + 314), .ref (x + 319), .ref (x + 332), .int (zI hs), .int (zI er), .int (zI fa), .int (zI ss)]))] H ∧ PR E (x + 1) (courtW E (x + 1) co) H) "java/lang/IllegalStateException" (fun H => True) := by
  refine Tx.start (own := RX9) rfl (by decide +kernel) (Nat.le_of_ble_eq_true rfl) ?_
  intro p e s m below meth cd args Q hQ X tb hlk hM hPr
  obtain ⟨h_cm, h_co⟩ := hPr
  have hb0 := hO.b0
  have hbw := hO.bw
  refine v_aload_n X dX9_appeal_0 1 rfl 0 rfl ?_
  refine v_iconst X dX9_appeal_1 2 rfl ?_
  refine v_iload_n X dX9_appeal_2 3 rfl 1 rfl ?_
  refine v_iconst X dX9_appeal_3 4 rfl ?_
  refine v_iconst X dX9_appeal_4 5 rfl ?_
  refine v_iconst X dX9_appeal_5 6 rfl ?_
  subst hQ; exact v_txV X tb hlk hM (h_cm.1) (x_X9_change_4 l hl E x co hs er fa ss 5 k 0 0 0 hO (by omega) gk (by omega) (by omega) hf) kvX9_change kiX9_change kl_X9_71 (q0 := 0) rfl rfl (As := [.int (zI 5), .int (zI k), .int (zI 0), .int (zI 0), .int (zI 0)]) rfl rfl rfl rfl dX9_appeal_6 (fun q hq => hq.elim) ⟨h_cm, h_co⟩ (fun H1 hF hpo => trivial)
set_option maxHeartbeats 4000000 in
set_option maxRecDepth 20000 in
theorem c_X9_close (l : Launch) (E : Nat → Nat → Nat) (x : Nat) (co : Nat → Int → Int) (hs : Int) (er : Int) (fa : Int) (ss : Int) (k : Int) (hc : Nat → Nat → Int → Int) (nx : Int) (sz : Int) (hO : OkC co) (gk : Rg k) (hf : flC co 6 k 0 0 = 0) (n0 : 0 ≤ nx) (n1 : nx < 8) (s0 : 0 ≤ sz) (s1 : sz ≤ 8) (hd_cm_co : x + 1 ≤ x + 1 ∨ x + 1 + 28 ≤ x) (hd_cm_hi : x + 1 ≤ x + 85 ∨ x + 85 + 2 ≤ x) (hd_cm_hf : x + 1 ≤ x + 87 ∨ x + 87 + 224 ≤ x) (hd_co_hi : x + 1 + 28 ≤ x + 85 ∨ x + 85 + 2 ≤ x + 1) (hd_co_hf : x + 1 + 28 ≤ x + 87 ∨ x + 87 + 224 ≤ x + 1) (hd_hi_hf : x + 85 + 2 ≤ x + 87 ∨ x + 87 + 224 ≤ x + 85) : Mu l yX9_close cX9_close 2 (some .int) 10 0 0 E [(x + 1, 28), (x + 85, 2), (x + 87, 224)] [.ref x, .int (zI k)] (fun H => PR E x [(x, .inr (11, [.ref (x + 1), .ref (x + 29), .ref (x + 57), .ref (x + 85), .ref (x + 311), .ref (x + 314), .ref (x + 319), .ref (x + 332), .int (zI hs), .int (zI er), .int (zI fa), .int (zI ss)]))] H ∧ PR E (x + 1) (courtW E (x + 1) co) H ∧ PR E (x + 85) [(x + 85, .inr (7, [.ref (x + 86), .int (zI nx), .int (zI sz)])), (x + 86, .inl (E 102 3, 8, .inr (.inr (.inr (.inr (hisA (x + 87) 8))))))] H ∧ HF E (x + 87) 8 hc H) (fun rv H => rv = some (.int (zI (opV co 6 k 0 0 0))) ∧ PR E (x + 1) (courtW E (x + 1) (opC co 6 k 0 0 0)) H ∧ PR E (x + 85) [(x + 85, .inr (7, [.ref (x + 86), .int (zI (if nx < 7 then nx + 1 else 0)), .int (zI (min (sz + 1) 8))])), (x + 86, .inl (E 102 3, 8, .inr (.inr (.inr (.inr (hisA (x + 87) 8))))))] H ∧ HF E (x + 87) 8 (fun j => if j = nx.toNat then co else hc j) H) := by
  refine Mu.start (own := RX9) rfl (by decide +kernel) (Nat.le_of_ble_eq_true rfl) ?_
  intro p e s m below meth cd args Q hQ X hr hlk hnm hM hPr
  obtain ⟨h_cm, h_co, h_hi, h_hf⟩ := hPr
  have hb0 := hO.b0
  have hbw := hO.bw
  refine v_aload_n X dX9_close_0 1 rfl 0 rfl ?_
  refine v_bipush X dX9_close_1 3 rfl rfl ?_
  refine v_iload_n X dX9_close_3 4 rfl 1 rfl ?_
  refine v_iconst X dX9_close_4 5 rfl ?_
  refine v_iconst X dX9_close_5 6 rfl ?_
  refine v_iconst X dX9_close_6 7 rfl ?_
  refine v_muV X hM (h_cm.1) (c_X9_change l E x co hs er fa ss 6 k 0 0 0 hc nx sz hO (by omega) gk (by omega) (by omega) (by omega) hf n0 n1 s0 s1 hd_cm_co hd_cm_hi hd_cm_hf hd_co_hi hd_co_hf hd_hi_hf) kvX9_change kiX9_change kl_X9_71 (q0 := 0) rfl rfl (As := [.int (zI 6), .int (zI k), .int (zI 0), .int (zI 0), .int (zI 0)]) rfl rfl rfl dX9_close_7 10 rfl (k' := 0) (n' := 0) rfl rfl (by intro q hq; simp only [Fr, Fs, or_false, false_or] at hq ⊢; omega) ⟨h_cm, h_co, h_hi, h_hf⟩ (fun rv H1 lo1 hM hF hpo => ?_)
  obtain ⟨rfl, hw_0, hw_1, hw_2⟩ := hpo
  have h_co : PR E (x + 1) (courtW E (x + 1) (opC co 6 k 0 0 0)) H1 := hw_0
  have h_hi : PR E (x + 85) [(x + 85, .inr (7, [.ref (x + 86), .int (zI (if nx < 7 then nx + 1 else 0)), .int (zI (min (sz + 1) 8))])), (x + 86, .inl (E 102 3, 8, .inr (.inr (.inr (.inr (hisA (x + 87) 8))))))] H1 := hw_1
  have h_hf : HF E (x + 87) 8 (fun j => if j = nx.toNat then co else hc j) H1 := hw_2
  replace h_cm := h_cm.kept hF 1 rfl (by intro q q1 q2 q3; simp only [Fs, or_false] at q3; omega)
  show V p l e (rmL 10 0 0) s m args below meth cd Q 2 H1 lo1 0 0 10 [(0, .ref x), (1, .int (zI k))] [.int (zI (opV co 6 k 0 0 0))]
  have hb_2 := hO.b6 k
  subst hQ; exact m_iret X hr hlk hM dX9_close_10 rfl ⟨rfl, h_co, h_hi, h_hf⟩
set_option maxHeartbeats 4000000 in
set_option maxRecDepth 20000 in
theorem x_X9_close_1 (l : Launch) (hl : l.stackTraces = false) (E : Nat → Nat → Nat) (x : Nat) (co : Nat → Int → Int) (hs : Int) (er : Int) (fa : Int) (ss : Int) (k : Int) (hO : OkC co) (gk : Rg k) (hf : flC co 6 k 0 0 = 1) : Tx l yX9_close cX9_close 2 (some .int) 10 1 6 E [] [.ref x, .int (zI k)] (fun H => PR E x [(x, .inr (11, [.ref (x + 1), .ref (x + 29), .ref (x + 57), .ref (x + 85), .ref (x + 311), .ref (x + 314), .ref (x + 319), .ref (x + 332), .int (zI hs), .int (zI er), .int (zI fa), .int (zI ss)]))] H ∧ PR E (x + 1) (courtW E (x + 1) co) H) "java/lang/IndexOutOfBoundsException" (fun H => True) := by
  refine Tx.start (own := RX9) rfl (by decide +kernel) (Nat.le_of_ble_eq_true rfl) ?_
  intro p e s m below meth cd args Q hQ X tb hlk hM hPr
  obtain ⟨h_cm, h_co⟩ := hPr
  have hb0 := hO.b0
  have hbw := hO.bw
  refine v_aload_n X dX9_close_0 1 rfl 0 rfl ?_
  refine v_bipush X dX9_close_1 3 rfl rfl ?_
  refine v_iload_n X dX9_close_3 4 rfl 1 rfl ?_
  refine v_iconst X dX9_close_4 5 rfl ?_
  refine v_iconst X dX9_close_5 6 rfl ?_
  refine v_iconst X dX9_close_6 7 rfl ?_
  subst hQ; exact v_txV X tb hlk hM (h_cm.1) (x_X9_change_1 l hl E x co hs er fa ss 6 k 0 0 0 hO (by omega) gk (by omega) (by omega) hf) kvX9_change kiX9_change kl_X9_71 (q0 := 0) rfl rfl (As := [.int (zI 6), .int (zI k), .int (zI 0), .int (zI 0), .int (zI 0)]) rfl rfl rfl rfl dX9_close_7 (fun q hq => hq.elim) ⟨h_cm, h_co⟩ (fun H1 hF hpo => trivial)
set_option maxHeartbeats 4000000 in
set_option maxRecDepth 20000 in
theorem x_X9_close_4 (l : Launch) (hl : l.stackTraces = false) (E : Nat → Nat → Nat) (x : Nat) (co : Nat → Int → Int) (hs : Int) (er : Int) (fa : Int) (ss : Int) (k : Int) (hO : OkC co) (gk : Rg k) (hf : flC co 6 k 0 0 = 4) : Tx l yX9_close cX9_close 2 (some .int) 10 1 6 E [] [.ref x, .int (zI k)] (fun H => PR E x [(x, .inr (11, [.ref (x + 1), .ref (x + 29), .ref (x + 57), .ref (x + 85), .ref (x + 311), .ref (x + 314), .ref (x + 319), .ref (x + 332), .int (zI hs), .int (zI er), .int (zI fa), .int (zI ss)]))] H ∧ PR E (x + 1) (courtW E (x + 1) co) H) "java/lang/IllegalStateException" (fun H => True) := by
  refine Tx.start (own := RX9) rfl (by decide +kernel) (Nat.le_of_ble_eq_true rfl) ?_
  intro p e s m below meth cd args Q hQ X tb hlk hM hPr
  obtain ⟨h_cm, h_co⟩ := hPr
  have hb0 := hO.b0
  have hbw := hO.bw
  refine v_aload_n X dX9_close_0 1 rfl 0 rfl ?_
  refine v_bipush X dX9_close_1 3 rfl rfl ?_
  refine v_iload_n X dX9_close_3 4 rfl 1 rfl ?_
  refine v_iconst X dX9_close_4 5 rfl ?_
  refine v_iconst X dX9_close_5 6 rfl ?_
  refine v_iconst X dX9_close_6 7 rfl ?_
  subst hQ; exact v_txV X tb hlk hM (h_cm.1) (x_X9_change_4 l hl E x co hs er fa ss 6 k 0 0 0 hO (by omega) gk (by omega) (by omega) hf) kvX9_change kiX9_change kl_X9_71 (q0 := 0) rfl rfl (As := [.int (zI 6), .int (zI k), .int (zI 0), .int (zI 0), .int (zI 0)]) rfl rfl rfl rfl dX9_close_7 (fun q hq => hq.elim) ⟨h_cm, h_co⟩ (fun H1 hF hpo => trivial)
set_option maxHeartbeats 4000000 in
set_option maxRecDepth 20000 in
theorem w_X9_charge (l : Launch) (hl : l.stackTraces = false) (E : Nat → Nat → Nat) (x : Nat) (co : Nat → Int → Int) (hs : Int) (er : Int) (fa : Int) (ss : Int) (d : Int) (o : Int) (hc : Nat → Nat → Int → Int) (nx : Int) (sz : Int) (oa : Nat) (lg : Nat → Int64) (hO : OkC co) (gd : Rg d) (go : Rg o) (hf : flC co 0 d o 0 = 0) (n0 : 0 ≤ nx) (n1 : nx < 8) (s0 : 0 ≤ sz) (s1 : sz ≤ 8) (hd_cm_co : x + 1 ≤ x + 1 ∨ x + 1 + 28 ≤ x) (hd_cm_hi : x + 1 ≤ x + 85 ∨ x + 85 + 2 ≤ x) (hd_cm_hf : x + 1 ≤ x + 87 ∨ x + 87 + 224 ≤ x) (hd_cm_out : x + 1 ≤ oa ∨ oa + 1 ≤ x) (hd_co_hi : x + 1 + 28 ≤ x + 85 ∨ x + 85 + 2 ≤ x + 1) (hd_co_hf : x + 1 + 28 ≤ x + 87 ∨ x + 87 + 224 ≤ x + 1) (hd_co_out : x + 1 + 28 ≤ oa ∨ oa + 1 ≤ x + 1) (hd_hi_hf : x + 85 + 2 ≤ x + 87 ∨ x + 87 + 224 ≤ x + 85) (hd_hi_out : x + 85 + 2 ≤ oa ∨ oa + 1 ≤ x + 85) (hd_hf_out : x + 87 + 224 ≤ oa ∨ oa + 1 ≤ x + 87) : MuW l yL_charge cL_charge 5 (some .int) [(0, 10, 13, 13), (0, 10, 17, 15)] 11 1 6 E [(x + 1, 28), (x + 85, 2), (x + 87, 224), (oa, 1)] [.ref x, .int (zI d), .int (zI o), .ref oa] (fun H => PR E x [(x, .inr (11, [.ref (x + 1), .ref (x + 29), .ref (x + 57), .ref (x + 85), .ref (x + 311), .ref (x + 314), .ref (x + 319), .ref (x + 332), .int (zI hs), .int (zI er), .int (zI fa), .int (zI ss)]))] H ∧ PR E (x + 1) (courtW E (x + 1) co) H ∧ PR E (x + 85) [(x + 85, .inr (7, [.ref (x + 86), .int (zI nx), .int (zI sz)])), (x + 86, .inl (E 102 3, 8, .inr (.inr (.inr (.inr (hisA (x + 87) 8))))))] H ∧ HF E (x + 87) 8 hc H ∧ PR E oa [(oa, .inl (E 102 4, 1, .inr (.inl lg)))] H) (fun rv H => rv = some (.int (zI 0)) ∧ PR E (x + 1) (courtW E (x + 1) (opC co 0 d o 0 0)) H ∧ PR E (x + 85) [(x + 85, .inr (7, [.ref (x + 86), .int (zI (if nx < 7 then nx + 1 else 0)), .int (zI (min (sz + 1) 8))])), (x + 86, .inl (E 102 3, 8, .inr (.inr (.inr (.inr (hisA (x + 87) 8))))))] H ∧ HF E (x + 87) 8 (fun j => if j = nx.toNat then co else hc j) H ∧ PR E oa [(oa, .inl (E 102 4, 1, .inr (.inl (fun _ => zL (opV co 0 d o 0 0)))))] H) := by
  refine MuW.start (own := RL) rfl (by decide +kernel) (Nat.le_of_ble_eq_true rfl) ?_
  intro p e s m below meth cd args Q hQ X hr hlk htab hM hPr
  obtain ⟨h_cm, h_co, h_hi, h_hf, h_out⟩ := hPr
  refine v_aload_n X dL_charge_0 1 rfl 3 rfl ?_
  refine v_iconst X dL_charge_1 2 rfl ?_
  refine v_aload_n X dL_charge_2 3 rfl 0 rfl ?_
  refine v_iload_n X dL_charge_3 4 rfl 1 rfl ?_
  refine v_iload_n X dL_charge_4 5 rfl 2 rfl ?_
  refine v_muV X hM (h_cm.1) (c_X9_charge l E x co hs er fa ss d o hc nx sz hO gd go hf n0 n1 s0 s1 hd_cm_co hd_cm_hi hd_cm_hf hd_co_hi hd_co_hf hd_hi_hf) kvX9_charge kiX9_charge kl_L_7 (q0 := 0) rfl rfl (As := [.int (zI d), .int (zI o)]) rfl rfl rfl dL_charge_5 8 rfl (k' := 0) (n' := 0) rfl rfl (by intro q hq; simp only [Fr, Fs, or_false, false_or] at hq ⊢; omega) ⟨h_cm, h_co, h_hi, h_hf⟩ (fun rv H1 lo1 hM hF hpo => ?_)
  obtain ⟨rfl, hw_0, hw_1, hw_2⟩ := hpo
  have h_co : PR E (x + 1) (courtW E (x + 1) (opC (co) 0 d o 0 0)) H1 := hw_0
  have h_hi : PR E (x + 85) [(x + 85, .inr (7, [.ref (x + 86), .int (zI (if nx < 7 then nx + 1 else 0)), .int (zI (min (sz + 1) 8))])), (x + 86, .inl (E 102 3, 8, .inr (.inr (.inr (.inr (hisA (x + 87) 8))))))] H1 := hw_1
  have h_hf : HF E (x + 87) 8 (fun j => if j = nx.toNat then co else hc j) H1 := hw_2
  replace h_cm := h_cm.kept hF 1 rfl (by intro q q1 q2 q3; simp only [Fs, or_false] at q3; omega)
  replace h_out := h_out.kept hF 1 rfl (by intro q q1 q2 q3; simp only [Fs, or_false] at q3; omega)
  show V p l e (rmL 11 1 6) s m args below meth cd Q 5 H1 lo1 0 0 8 [(0, .ref x), (1, .int (zI d)), (2, .int (zI o)), (3, .ref oa)] [.int (zI (opV co 0 d o 0 0)), .int (zI 0), .ref oa]
  refine v_i2l X dL_charge_8 9 rfl ?_
  refine v_last X hM h_out 0 rfl (Or.inl (fsT (fsT (fsT (fsH (by omega) (by omega)))))) dL_charge_9 10 rfl (ws' := [(oa, .inl (E 102 4, 1, .inr (.inl (fun _ => zL (opV co 0 d o 0 0)))))]) rfl (fun H2 lo2 hzz hM hF h_out => ?_)
  clear hzz
  replace h_cm := h_cm.kept hF 1 rfl (fsd (by omega))
  replace h_co := h_co.kept hF 28 rfl (fsd (by omega))
  replace h_hi := h_hi.kept hF 2 rfl (fsd (by omega))
  replace h_hf := h_hf.kept hF (fsd (by omega))
  refine v_goto X dL_charge_10 21 (by decide) ?_
  refine v_iconst X dL_charge_21 22 rfl ?_
  subst hQ; exact m_iret X hr hlk hM dL_charge_22 rfl ⟨rfl, h_co, h_hi, h_hf, h_out⟩
set_option maxHeartbeats 4000000 in
set_option maxRecDepth 20000 in
theorem w_X9_charge_2_t (l : Launch) (hl : l.stackTraces = false) (E : Nat → Nat → Nat) (x : Nat) (co : Nat → Int → Int) (hs : Int) (er : Int) (fa : Int) (ss : Int) (d : Int) (o : Int) (oa : Nat) (lg : Nat → Int64) (hO : OkC co) (gd : Rg d) (go : Rg o) (hf : flC co 0 d o 0 = 2) : MuW l yL_charge cL_charge 5 (some .int) [(0, 10, 13, 13), (0, 10, 17, 15)] 11 1 6 E [] [.ref x, .int (zI d), .int (zI o), .ref oa] (fun H => PR E x [(x, .inr (11, [.ref (x + 1), .ref (x + 29), .ref (x + 57), .ref (x + 85), .ref (x + 311), .ref (x + 314), .ref (x + 319), .ref (x + 332), .int (zI hs), .int (zI er), .int (zI fa), .int (zI ss)]))] H ∧ PR E (x + 1) (courtW E (x + 1) co) H ∧ PR E oa [(oa, .inl (E 102 4, 1, .inr (.inl lg)))] H) (fun rv H => rv = some (.int (zI 1))) := by
  refine MuW.start (own := RL) rfl (by decide +kernel) (Nat.le_of_ble_eq_true rfl) ?_
  intro p e s m below meth cd args Q hQ X hr hlk htab hM hPr
  obtain ⟨h_cm, h_co, h_out⟩ := hPr
  refine v_aload_n X dL_charge_0 1 rfl 3 rfl ?_
  refine v_iconst X dL_charge_1 2 rfl ?_
  refine v_aload_n X dL_charge_2 3 rfl 0 rfl ?_
  refine v_iload_n X dL_charge_3 4 rfl 1 rfl ?_
  refine v_iload_n X dL_charge_4 5 rfl 2 rfl ?_
  have hht : HT RL "java/lang/IllegalArgumentException" s [(0, 10, 13, 13), (0, 10, 17, 15)] 5 0 13 := ⟨(0, 10, 13, 13), rfl, rfl, by decide, by decide, xl_L_13, xc_IAE, by
    intro i z hi hz
    omega⟩
  refine v_txC X htab hM (h_cm.1) (x_X9_charge_2 l hl E x co hs er fa ss d o hO gd go hf) kvX9_charge kiX9_charge kl_L_7 (q0 := 0) rfl rfl (As := [.int (zI d), .int (zI o)]) rfl rfl rfl dL_charge_5 0 13 hht (k' := 1) (n' := 6) rfl rfl (fun q hq => hq.elim) ⟨h_cm, h_co⟩ (fun q9 H1 lo1 hM hF hpo => ?_)
  replace h_cm := h_cm.kept hF 1 rfl (fun q _ _ h => h.elim)
  replace h_co := h_co.kept hF 28 rfl (fun q _ _ h => h.elim)
  replace h_out := h_out.kept hF 1 rfl (fun q _ _ h => h.elim)
  show V p l e (rmL 11 1 6) s m args below meth cd Q 5 H1 lo1 1 6 13 [(0, .ref x), (1, .int (zI d)), (2, .int (zI o)), (3, .ref oa)] [.ref q9]
  refine v_astore X dL_charge_13 15 rfl (by decide) (L' := [(4, .ref q9), (0, .ref x), (1, .int (zI d)), (2, .int (zI o)), (3, .ref oa)]) rfl ?_
  refine v_iconst X dL_charge_15 16 rfl ?_
  subst hQ; exact m_iret X hr hlk hM dL_charge_16 rfl rfl
set_option maxHeartbeats 4000000 in
set_option maxRecDepth 20000 in
theorem w_X9_charge_4_t (l : Launch) (hl : l.stackTraces = false) (E : Nat → Nat → Nat) (x : Nat) (co : Nat → Int → Int) (hs : Int) (er : Int) (fa : Int) (ss : Int) (d : Int) (o : Int) (oa : Nat) (lg : Nat → Int64) (hO : OkC co) (gd : Rg d) (go : Rg o) (hf : flC co 0 d o 0 = 4) : MuW l yL_charge cL_charge 5 (some .int) [(0, 10, 13, 13), (0, 10, 17, 15)] 11 1 6 E [] [.ref x, .int (zI d), .int (zI o), .ref oa] (fun H => PR E x [(x, .inr (11, [.ref (x + 1), .ref (x + 29), .ref (x + 57), .ref (x + 85), .ref (x + 311), .ref (x + 314), .ref (x + 319), .ref (x + 332), .int (zI hs), .int (zI er), .int (zI fa), .int (zI ss)]))] H ∧ PR E (x + 1) (courtW E (x + 1) co) H ∧ PR E oa [(oa, .inl (E 102 4, 1, .inr (.inl lg)))] H) (fun rv H => rv = some (.int (zI 2))) := by
  refine MuW.start (own := RL) rfl (by decide +kernel) (Nat.le_of_ble_eq_true rfl) ?_
  intro p e s m below meth cd args Q hQ X hr hlk htab hM hPr
  obtain ⟨h_cm, h_co, h_out⟩ := hPr
  refine v_aload_n X dL_charge_0 1 rfl 3 rfl ?_
  refine v_iconst X dL_charge_1 2 rfl ?_
  refine v_aload_n X dL_charge_2 3 rfl 0 rfl ?_
  refine v_iload_n X dL_charge_3 4 rfl 1 rfl ?_
  refine v_iload_n X dL_charge_4 5 rfl 2 rfl ?_
  have hht : HT RL "java/lang/IllegalStateException" s [(0, 10, 13, 13), (0, 10, 17, 15)] 5 1 17 := ⟨(0, 10, 17, 15), rfl, rfl, by decide, by decide, xl_L_15, xc_ISE, by
    intro i z hi hz
    rcases (show i = 0 by omega) with rfl
    · cases hz; exact ⟨by decide, _, xl_L_13, hM.C.2.2.2.2.2.2.1 1 0 _ _ (by decide) rfl rfl⟩⟩
  refine v_txC X htab hM (h_cm.1) (x_X9_charge_4 l hl E x co hs er fa ss d o hO gd go hf) kvX9_charge kiX9_charge kl_L_7 (q0 := 0) rfl rfl (As := [.int (zI d), .int (zI o)]) rfl rfl rfl dL_charge_5 1 17 hht (k' := 1) (n' := 6) rfl rfl (fun q hq => hq.elim) ⟨h_cm, h_co⟩ (fun q9 H1 lo1 hM hF hpo => ?_)
  replace h_cm := h_cm.kept hF 1 rfl (fun q _ _ h => h.elim)
  replace h_co := h_co.kept hF 28 rfl (fun q _ _ h => h.elim)
  replace h_out := h_out.kept hF 1 rfl (fun q _ _ h => h.elim)
  show V p l e (rmL 11 1 6) s m args below meth cd Q 5 H1 lo1 1 6 17 [(0, .ref x), (1, .int (zI d)), (2, .int (zI o)), (3, .ref oa)] [.ref q9]
  refine v_astore X dL_charge_17 19 rfl (by decide) (L' := [(4, .ref q9), (0, .ref x), (1, .int (zI d)), (2, .int (zI o)), (3, .ref oa)]) rfl ?_
  refine v_iconst X dL_charge_19 20 rfl ?_
  subst hQ; exact m_iret X hr hlk hM dL_charge_20 rfl rfl
set_option maxHeartbeats 4000000 in
set_option maxRecDepth 20000 in
theorem w_X9_addWitness (l : Launch) (hl : l.stackTraces = false) (E : Nat → Nat → Nat) (x : Nat) (co : Nat → Int → Int) (hs : Int) (er : Int) (fa : Int) (ss : Int) (v : Int) (hc : Nat → Nat → Int → Int) (nx : Int) (sz : Int) (oa : Nat) (lg : Nat → Int64) (hO : OkC co) (gv : Rg v) (hf : flC co 1 v 0 0 = 0) (n0 : 0 ≤ nx) (n1 : nx < 8) (s0 : 0 ≤ sz) (s1 : sz ≤ 8) (hd_cm_co : x + 1 ≤ x + 1 ∨ x + 1 + 28 ≤ x) (hd_cm_hi : x + 1 ≤ x + 85 ∨ x + 85 + 2 ≤ x) (hd_cm_hf : x + 1 ≤ x + 87 ∨ x + 87 + 224 ≤ x) (hd_cm_out : x + 1 ≤ oa ∨ oa + 1 ≤ x) (hd_co_hi : x + 1 + 28 ≤ x + 85 ∨ x + 85 + 2 ≤ x + 1) (hd_co_hf : x + 1 + 28 ≤ x + 87 ∨ x + 87 + 224 ≤ x + 1) (hd_co_out : x + 1 + 28 ≤ oa ∨ oa + 1 ≤ x + 1) (hd_hi_hf : x + 85 + 2 ≤ x + 87 ∨ x + 87 + 224 ≤ x + 85) (hd_hi_out : x + 85 + 2 ≤ oa ∨ oa + 1 ≤ x + 85) (hd_hf_out : x + 87 + 224 ≤ oa ∨ oa + 1 ≤ x + 87) : MuW l yL_addWitness cL_addWitness 4 (some .int) [(0, 9, 12, 13), (0, 9, 15, 15)] 11 1 6 E [(x + 1, 28), (x + 85, 2), (x + 87, 224), (oa, 1)] [.ref x, .int (zI v), .ref oa] (fun H => PR E x [(x, .inr (11, [.ref (x + 1), .ref (x + 29), .ref (x + 57), .ref (x + 85), .ref (x + 311), .ref (x + 314), .ref (x + 319), .ref (x + 332), .int (zI hs), .int (zI er), .int (zI fa), .int (zI ss)]))] H ∧ PR E (x + 1) (courtW E (x + 1) co) H ∧ PR E (x + 85) [(x + 85, .inr (7, [.ref (x + 86), .int (zI nx), .int (zI sz)])), (x + 86, .inl (E 102 3, 8, .inr (.inr (.inr (.inr (hisA (x + 87) 8))))))] H ∧ HF E (x + 87) 8 hc H ∧ PR E oa [(oa, .inl (E 102 4, 1, .inr (.inl lg)))] H) (fun rv H => rv = some (.int (zI 0)) ∧ PR E (x + 1) (courtW E (x + 1) (opC co 1 v 0 0 0)) H ∧ PR E (x + 85) [(x + 85, .inr (7, [.ref (x + 86), .int (zI (if nx < 7 then nx + 1 else 0)), .int (zI (min (sz + 1) 8))])), (x + 86, .inl (E 102 3, 8, .inr (.inr (.inr (.inr (hisA (x + 87) 8))))))] H ∧ HF E (x + 87) 8 (fun j => if j = nx.toNat then co else hc j) H ∧ PR E oa [(oa, .inl (E 102 4, 1, .inr (.inl (fun _ => zL (opV co 1 v 0 0 0)))))] H) := by
  refine MuW.start (own := RL) rfl (by decide +kernel) (Nat.le_of_ble_eq_true rfl) ?_
  intro p e s m below meth cd args Q hQ X hr hlk htab hM hPr
  obtain ⟨h_cm, h_co, h_hi, h_hf, h_out⟩ := hPr
  refine v_aload_n X dL_addWitness_0 1 rfl 2 rfl ?_
  refine v_iconst X dL_addWitness_1 2 rfl ?_
  refine v_aload_n X dL_addWitness_2 3 rfl 0 rfl ?_
  refine v_iload_n X dL_addWitness_3 4 rfl 1 rfl ?_
  refine v_muV X hM (h_cm.1) (c_X9_addWitness l E x co hs er fa ss v hc nx sz hO gv hf n0 n1 s0 s1 hd_cm_co hd_cm_hi hd_cm_hf hd_co_hi hd_co_hf hd_hi_hf) kvX9_addWitness kiX9_addWitness kl_L_17 (q0 := 0) rfl rfl (As := [.int (zI v)]) rfl rfl rfl dL_addWitness_4 7 rfl (k' := 0) (n' := 0) rfl rfl (by intro q hq; simp only [Fr, Fs, or_false, false_or] at hq ⊢; omega) ⟨h_cm, h_co, h_hi, h_hf⟩ (fun rv H1 lo1 hM hF hpo => ?_)
  obtain ⟨rfl, hw_0, hw_1, hw_2⟩ := hpo
  have h_co : PR E (x + 1) (courtW E (x + 1) (opC co 1 v 0 0 0)) H1 := hw_0
  have h_hi : PR E (x + 85) [(x + 85, .inr (7, [.ref (x + 86), .int (zI (if nx < 7 then nx + 1 else 0)), .int (zI (min (sz + 1) 8))])), (x + 86, .inl (E 102 3, 8, .inr (.inr (.inr (.inr (hisA (x + 87) 8))))))] H1 := hw_1
  have h_hf : HF E (x + 87) 8 (fun j => if j = nx.toNat then co else hc j) H1 := hw_2
  replace h_cm := h_cm.kept hF 1 rfl (by intro q q1 q2 q3; simp only [Fs, or_false] at q3; omega)
  replace h_out := h_out.kept hF 1 rfl (by intro q q1 q2 q3; simp only [Fs, or_false] at q3; omega)
  show V p l e (rmL 11 1 6) s m args below meth cd Q 4 H1 lo1 0 0 7 [(0, .ref x), (1, .int (zI v)), (2, .ref oa)] [.int (zI (opV co 1 v 0 0 0)), .int (zI 0), .ref oa]
  have hb_2 := hO.b1 v
  refine v_i2l X dL_addWitness_7 8 rfl ?_
  refine v_last X hM h_out 0 rfl (Or.inl (fsT (fsT (fsT (fsH (by omega) (by omega)))))) dL_addWitness_8 9 rfl (ws' := [(oa, .inl (E 102 4, 1, .inr (.inl (fun _ => zL (opV co 1 v 0 0 0)))))]) rfl (fun H3 lo3 hzz hM hF h_out => ?_)
  clear hzz
  replace h_cm := h_cm.kept hF 1 rfl (fsd (by omega))
  replace h_co := h_co.kept hF 28 rfl (fsd (by omega))
  replace h_hi := h_hi.kept hF 2 rfl (fsd (by omega))
  replace h_hf := h_hf.kept hF (fsd (by omega))
  refine v_goto X dL_addWitness_9 18 (by decide) ?_
  refine v_iconst X dL_addWitness_18 19 rfl ?_
  subst hQ; exact m_iret X hr hlk hM dL_addWitness_19 rfl ⟨rfl, h_co, h_hi, h_hf, h_out⟩
set_option maxHeartbeats 4000000 in
set_option maxRecDepth 20000 in
theorem w_X9_addWitness_2_t (l : Launch) (hl : l.stackTraces = false) (E : Nat → Nat → Nat) (x : Nat) (co : Nat → Int → Int) (hs : Int) (er : Int) (fa : Int) (ss : Int) (v : Int) (oa : Nat) (lg : Nat → Int64) (hO : OkC co) (gv : Rg v) (hf : flC co 1 v 0 0 = 2) : MuW l yL_addWitness cL_addWitness 4 (some .int) [(0, 9, 12, 13), (0, 9, 15, 15)] 11 1 6 E [] [.ref x, .int (zI v), .ref oa] (fun H => PR E x [(x, .inr (11, [.ref (x + 1), .ref (x + 29), .ref (x + 57), .ref (x + 85), .ref (x + 311), .ref (x + 314), .ref (x + 319), .ref (x + 332), .int (zI hs), .int (zI er), .int (zI fa), .int (zI ss)]))] H ∧ PR E (x + 1) (courtW E (x + 1) co) H ∧ PR E oa [(oa, .inl (E 102 4, 1, .inr (.inl lg)))] H) (fun rv H => rv = some (.int (zI 1))) := by
  refine MuW.start (own := RL) rfl (by decide +kernel) (Nat.le_of_ble_eq_true rfl) ?_
  intro p e s m below meth cd args Q hQ X hr hlk htab hM hPr
  obtain ⟨h_cm, h_co, h_out⟩ := hPr
  refine v_aload_n X dL_addWitness_0 1 rfl 2 rfl ?_
  refine v_iconst X dL_addWitness_1 2 rfl ?_
  refine v_aload_n X dL_addWitness_2 3 rfl 0 rfl ?_
  refine v_iload_n X dL_addWitness_3 4 rfl 1 rfl ?_
  have hht : HT RL "java/lang/IllegalArgumentException" s [(0, 9, 12, 13), (0, 9, 15, 15)] 4 0 12 := ⟨(0, 9, 12, 13), rfl, rfl, by decide, by decide, xl_L_13, xc_IAE, by
    intro i z hi hz
    omega⟩
  refine v_txC X htab hM (h_cm.1) (x_X9_addWitness_2 l hl E x co hs er fa ss v hO gv hf) kvX9_addWitness kiX9_addWitness kl_L_17 (q0 := 0) rfl rfl (As := [.int (zI v)]) rfl rfl rfl dL_addWitness_4 0 12 hht (k' := 1) (n' := 6) rfl rfl (fun q hq => hq.elim) ⟨h_cm, h_co⟩ (fun q9 H1 lo1 hM hF hpo => ?_)
  replace h_cm := h_cm.kept hF 1 rfl (fun q _ _ h => h.elim)
  replace h_co := h_co.kept hF 28 rfl (fun q _ _ h => h.elim)
  replace h_out := h_out.kept hF 1 rfl (fun q _ _ h => h.elim)
  show V p l e (rmL 11 1 6) s m args below meth cd Q 4 H1 lo1 1 6 12 [(0, .ref x), (1, .int (zI v)), (2, .ref oa)] [.ref q9]
  refine v_astore_n X dL_addWitness_12 13 rfl rfl (by decide) (L' := [(3, .ref q9), (0, .ref x), (1, .int (zI v)), (2, .ref oa)]) rfl ?_
  refine v_iconst X dL_addWitness_13 14 rfl ?_
  subst hQ; exact m_iret X hr hlk hM dL_addWitness_14 rfl rfl
set_option maxHeartbeats 4000000 in
set_option maxRecDepth 20000 in
theorem w_X9_addWitness_4_t (l : Launch) (hl : l.stackTraces = false) (E : Nat → Nat → Nat) (x : Nat) (co : Nat → Int → Int) (hs : Int) (er : Int) (fa : Int) (ss : Int) (v : Int) (oa : Nat) (lg : Nat → Int64) (hO : OkC co) (gv : Rg v) (hf : flC co 1 v 0 0 = 4) : MuW l yL_addWitness cL_addWitness 4 (some .int) [(0, 9, 12, 13), (0, 9, 15, 15)] 11 1 6 E [] [.ref x, .int (zI v), .ref oa] (fun H => PR E x [(x, .inr (11, [.ref (x + 1), .ref (x + 29), .ref (x + 57), .ref (x + 85), .ref (x + 311), .ref (x + 314), .ref (x + 319), .ref (x + 332), .int (zI hs), .int (zI er), .int (zI fa), .int (zI ss)]))] H ∧ PR E (x + 1) (courtW E (x + 1) co) H ∧ PR E oa [(oa, .inl (E 102 4, 1, .inr (.inl lg)))] H) (fun rv H => rv = some (.int (zI 2))) := by
  refine MuW.start (own := RL) rfl (by decide +kernel) (Nat.le_of_ble_eq_true rfl) ?_
  intro p e s m below meth cd args Q hQ X hr hlk htab hM hPr
  obtain ⟨h_cm, h_co, h_out⟩ := hPr
  refine v_aload_n X dL_addWitness_0 1 rfl 2 rfl ?_
  refine v_iconst X dL_addWitness_1 2 rfl ?_
  refine v_aload_n X dL_addWitness_2 3 rfl 0 rfl ?_
  refine v_iload_n X dL_addWitness_3 4 rfl 1 rfl ?_
  have hht : HT RL "java/lang/IllegalStateException" s [(0, 9, 12, 13), (0, 9, 15, 15)] 4 1 15 := ⟨(0, 9, 15, 15), rfl, rfl, by decide, by decide, xl_L_15, xc_ISE, by
    intro i z hi hz
    rcases (show i = 0 by omega) with rfl
    · cases hz; exact ⟨by decide, _, xl_L_13, hM.C.2.2.2.2.2.2.1 1 0 _ _ (by decide) rfl rfl⟩⟩
  refine v_txC X htab hM (h_cm.1) (x_X9_addWitness_4 l hl E x co hs er fa ss v hO gv hf) kvX9_addWitness kiX9_addWitness kl_L_17 (q0 := 0) rfl rfl (As := [.int (zI v)]) rfl rfl rfl dL_addWitness_4 1 15 hht (k' := 1) (n' := 6) rfl rfl (fun q hq => hq.elim) ⟨h_cm, h_co⟩ (fun q9 H1 lo1 hM hF hpo => ?_)
  replace h_cm := h_cm.kept hF 1 rfl (fun q _ _ h => h.elim)
  replace h_co := h_co.kept hF 28 rfl (fun q _ _ h => h.elim)
  replace h_out := h_out.kept hF 1 rfl (fun q _ _ h => h.elim)
  show V p l e (rmL 11 1 6) s m args below meth cd Q 4 H1 lo1 1 6 15 [(0, .ref x), (1, .int (zI v)), (2, .ref oa)] [.ref q9]
  refine v_astore_n X dL_addWitness_15 16 rfl rfl (by decide) (L' := [(3, .ref q9), (0, .ref x), (1, .int (zI v)), (2, .ref oa)]) rfl ?_
  refine v_iconst X dL_addWitness_16 17 rfl ?_
  subst hQ; exact m_iret X hr hlk hM dL_addWitness_17 rfl rfl
set_option maxHeartbeats 4000000 in
set_option maxRecDepth 20000 in
theorem w_X9_testify (l : Launch) (hl : l.stackTraces = false) (E : Nat → Nat → Nat) (x : Nat) (co : Nat → Int → Int) (hs : Int) (er : Int) (fa : Int) (ss : Int) (k : Int) (w : Int) (f : Int) (z : Int) (hc : Nat → Nat → Int → Int) (nx : Int) (sz : Int) (oa : Nat) (lg : Nat → Int64) (hO : OkC co) (gk : Rg k) (gw : Rg w) (gz : Rg z) (gf : 0 ≤ f ∧ f ≤ 1) (hf : flC co 2 k w z = 0) (n0 : 0 ≤ nx) (n1 : nx < 8) (s0 : 0 ≤ sz) (s1 : sz ≤ 8) (hd_cm_co : x + 1 ≤ x + 1 ∨ x + 1 + 28 ≤ x) (hd_cm_hi : x + 1 ≤ x + 85 ∨ x + 85 + 2 ≤ x) (hd_cm_hf : x + 1 ≤ x + 87 ∨ x + 87 + 224 ≤ x) (hd_cm_out : x + 1 ≤ oa ∨ oa + 1 ≤ x) (hd_co_hi : x + 1 + 28 ≤ x + 85 ∨ x + 85 + 2 ≤ x + 1) (hd_co_hf : x + 1 + 28 ≤ x + 87 ∨ x + 87 + 224 ≤ x + 1) (hd_co_out : x + 1 + 28 ≤ oa ∨ oa + 1 ≤ x + 1) (hd_hi_hf : x + 85 + 2 ≤ x + 87 ∨ x + 87 + 224 ≤ x + 85) (hd_hi_out : x + 85 + 2 ≤ oa ∨ oa + 1 ≤ x + 85) (hd_hf_out : x + 87 + 224 ≤ oa ∨ oa + 1 ≤ x + 87) : MuW l yL_testify cL_testify 7 (some .int) [(0, 14, 17, 25), (0, 14, 21, 13), (0, 14, 25, 15)] 11 1 6 E [(x + 1, 28), (x + 85, 2), (x + 87, 224), (oa, 1)] [.ref x, .int (zI k), .int (zI w), .int (zI f), .int (zI z), .ref oa] (fun H => PR E x [(x, .inr (11, [.ref (x + 1), .ref (x + 29), .ref (x + 57), .ref (x + 85), .ref (x + 311), .ref (x + 314), .ref (x + 319), .ref (x + 332), .int (zI hs), .int (zI er), .int (zI fa), .int (zI ss)]))] H ∧ PR E (x + 1) (courtW E (x + 1) co) H ∧ PR E (x + 85) [(x + 85, .inr (7, [.ref (x + 86), .int (zI nx), .int (zI sz)])), (x + 86, .inl (E 102 3, 8, .inr (.inr (.inr (.inr (hisA (x + 87) 8))))))] H ∧ HF E (x + 87) 8 hc H ∧ PR E oa [(oa, .inl (E 102 4, 1, .inr (.inl lg)))] H) (fun rv H => rv = some (.int (zI 0)) ∧ PR E (x + 1) (courtW E (x + 1) (opC co 2 k w f z)) H ∧ PR E (x + 85) [(x + 85, .inr (7, [.ref (x + 86), .int (zI (if nx < 7 then nx + 1 else 0)), .int (zI (min (sz + 1) 8))])), (x + 86, .inl (E 102 3, 8, .inr (.inr (.inr (.inr (hisA (x + 87) 8))))))] H ∧ HF E (x + 87) 8 (fun j => if j = nx.toNat then co else hc j) H ∧ PR E oa [(oa, .inl (E 102 4, 1, .inr (.inl (fun _ => zL (opV co 2 k w f z)))))] H) := by
  refine MuW.start (own := RL) rfl (by decide +kernel) (Nat.le_of_ble_eq_true rfl) ?_
  intro p e s m below meth cd args Q hQ X hr hlk htab hM hPr
  obtain ⟨h_cm, h_co, h_hi, h_hf, h_out⟩ := hPr
  refine v_aload X dL_testify_0 2 rfl 5 rfl ?_
  refine v_iconst X dL_testify_2 3 rfl ?_
  refine v_aload_n X dL_testify_3 4 rfl 0 rfl ?_
  refine v_iload_n X dL_testify_4 5 rfl 1 rfl ?_
  refine v_iload_n X dL_testify_5 6 rfl 2 rfl ?_
  refine v_iload_n X dL_testify_6 7 rfl 3 rfl ?_
  refine v_iload X dL_testify_7 9 rfl 4 rfl ?_
  refine v_muV X hM (h_cm.1) (c_X9_testify l E x co hs er fa ss k w f z hc nx sz hO gk gw gz gf hf n0 n1 s0 s1 hd_cm_co hd_cm_hi hd_cm_hf hd_co_hi hd_co_hf hd_hi_hf) kvX9_testify kiX9_testify kl_L_21 (q0 := 0) rfl rfl (As := [.int (zI k), .int (zI w), .int (zI f), .int (zI z)]) rfl rfl rfl dL_testify_9 12 rfl (k' := 0) (n' := 0) rfl rfl (by intro q hq; simp only [Fr, Fs, or_false, false_or] at hq ⊢; omega) ⟨h_cm, h_co, h_hi, h_hf⟩ (fun rv H1 lo1 hM hF hpo => ?_)
  obtain ⟨rfl, hw_0, hw_1, hw_2⟩ := hpo
  have h_co : PR E (x + 1) (courtW E (x + 1) (opC co 2 k w f z)) H1 := hw_0
  have h_hi : PR E (x + 85) [(x + 85, .inr (7, [.ref (x + 86), .int (zI (if nx < 7 then nx + 1 else 0)), .int (zI (min (sz + 1) 8))])), (x + 86, .inl (E 102 3, 8, .inr (.inr (.inr (.inr (hisA (x + 87) 8))))))] H1 := hw_1
  have h_hf : HF E (x + 87) 8 (fun j => if j = nx.toNat then co else hc j) H1 := hw_2
  replace h_cm := h_cm.kept hF 1 rfl (by intro q q1 q2 q3; simp only [Fs, or_false] at q3; omega)
  replace h_out := h_out.kept hF 1 rfl (by intro q q1 q2 q3; simp only [Fs, or_false] at q3; omega)
  show V p l e (rmL 11 1 6) s m args below meth cd Q 7 H1 lo1 0 0 12 [(0, .ref x), (1, .int (zI k)), (2, .int (zI w)), (3, .int (zI f)), (4, .int (zI z)), (5, .ref oa)] [.int (zI (opV co 2 k w f z)), .int (zI 0), .ref oa]
  have hb_2 := hO.b2 k
  refine v_i2l X dL_testify_12 13 rfl ?_
  refine v_last X hM h_out 0 rfl (Or.inl (fsT (fsT (fsT (fsH (by omega) (by omega)))))) dL_testify_13 14 rfl (ws' := [(oa, .inl (E 102 4, 1, .inr (.inl (fun _ => zL (opV co 2 k w f z)))))]) rfl (fun H3 lo3 hzz hM hF h_out => ?_)
  clear hzz
  replace h_cm := h_cm.kept hF 1 rfl (fsd (by omega))
  replace h_co := h_co.kept hF 28 rfl (fsd (by omega))
  replace h_hi := h_hi.kept hF 2 rfl (fsd (by omega))
  replace h_hf := h_hf.kept hF (fsd (by omega))
  refine v_goto X dL_testify_14 29 (by decide) ?_
  refine v_iconst X dL_testify_29 30 rfl ?_
  subst hQ; exact m_iret X hr hlk hM dL_testify_30 rfl ⟨rfl, h_co, h_hi, h_hf, h_out⟩
set_option maxHeartbeats 4000000 in
set_option maxRecDepth 20000 in
theorem w_X9_testify_1_t (l : Launch) (hl : l.stackTraces = false) (E : Nat → Nat → Nat) (x : Nat) (co : Nat → Int → Int) (hs : Int) (er : Int) (fa : Int) (ss : Int) (k : Int) (w : Int) (f : Int) (z : Int) (oa : Nat) (lg : Nat → Int64) (hO : OkC co) (gk : Rg k) (gw : Rg w) (gz : Rg z) (gf : 0 ≤ f ∧ f ≤ 1) (hf : flC co 2 k w z = 1) : MuW l yL_testify cL_testify 7 (some .int) [(0, 14, 17, 25), (0, 14, 21, 13), (0, 14, 25, 15)] 11 1 6 E [] [.ref x, .int (zI k), .int (zI w), .int (zI f), .int (zI z), .ref oa] (fun H => PR E x [(x, .inr (11, [.ref (x + 1), .ref (x + 29), .ref (x + 57), .ref (x + 85), .ref (x + 311), .ref (x + 314), .ref (x + 319), .ref (x + 332), .int (zI hs), .int (zI er), .int (zI fa), .int (zI ss)]))] H ∧ PR E (x + 1) (courtW E (x + 1) co) H ∧ PR E oa [(oa, .inl (E 102 4, 1, .inr (.inl lg)))] H) (fun rv H => rv = some (.int (zI 1))) := by
  refine MuW.start (own := RL) rfl (by decide +kernel) (Nat.le_of_ble_eq_true rfl) ?_
  intro p e s m below meth cd args Q hQ X hr hlk htab hM hPr
  obtain ⟨h_cm, h_co, h_out⟩ := hPr
  refine v_aload X dL_testify_0 2 rfl 5 rfl ?_
  refine v_iconst X dL_testify_2 3 rfl ?_
  refine v_aload_n X dL_testify_3 4 rfl 0 rfl ?_
  refine v_iload_n X dL_testify_4 5 rfl 1 rfl ?_
  refine v_iload_n X dL_testify_5 6 rfl 2 rfl ?_
  refine v_iload_n X dL_testify_6 7 rfl 3 rfl ?_
  refine v_iload X dL_testify_7 9 rfl 4 rfl ?_
  have hht : HT RL "java/lang/IndexOutOfBoundsException" s [(0, 14, 17, 25), (0, 14, 21, 13), (0, 14, 25, 15)] 9 0 17 := ⟨(0, 14, 17, 25), rfl, rfl, by decide, by decide, xl_L_25, xc_IOB, by
    intro i z hi hz
    omega⟩
  refine v_txC X htab hM (h_cm.1) (x_X9_testify_1 l hl E x co hs er fa ss k w f z hO gk gw gz gf hf) kvX9_testify kiX9_testify kl_L_21 (q0 := 0) rfl rfl (As := [.int (zI k), .int (zI w), .int (zI f), .int (zI z)]) rfl rfl rfl dL_testify_9 0 17 hht (k' := 1) (n' := 6) rfl rfl (fun q hq => hq.elim) ⟨h_cm, h_co⟩ (fun q9 H1 lo1 hM hF hpo => ?_)
  replace h_cm := h_cm.kept hF 1 rfl (fun q _ _ h => h.elim)
  replace h_co := h_co.kept hF 28 rfl (fun q _ _ h => h.elim)
  replace h_out := h_out.kept hF 1 rfl (fun q _ _ h => h.elim)
  show V p l e (rmL 11 1 6) s m args below meth cd Q 7 H1 lo1 1 6 17 [(0, .ref x), (1, .int (zI k)), (2, .int (zI w)), (3, .int (zI f)), (4, .int (zI z)), (5, .ref oa)] [.ref q9]
  refine v_astore X dL_testify_17 19 rfl (by decide) (L' := [(6, .ref q9), (0, .ref x), (1, .int (zI k)), (2, .int (zI w)), (3, .int (zI f)), (4, .int (zI z)), (5, .ref oa)]) rfl ?_
  refine v_iconst X dL_testify_19 20 rfl ?_
  subst hQ; exact m_iret X hr hlk hM dL_testify_20 rfl rfl
set_option maxHeartbeats 4000000 in
set_option maxRecDepth 20000 in
theorem w_X9_testify_2_t (l : Launch) (hl : l.stackTraces = false) (E : Nat → Nat → Nat) (x : Nat) (co : Nat → Int → Int) (hs : Int) (er : Int) (fa : Int) (ss : Int) (k : Int) (w : Int) (f : Int) (z : Int) (oa : Nat) (lg : Nat → Int64) (hO : OkC co) (gk : Rg k) (gw : Rg w) (gz : Rg z) (gf : 0 ≤ f ∧ f ≤ 1) (hf : flC co 2 k w z = 2) : MuW l yL_testify cL_testify 7 (some .int) [(0, 14, 17, 25), (0, 14, 21, 13), (0, 14, 25, 15)] 11 1 6 E [] [.ref x, .int (zI k), .int (zI w), .int (zI f), .int (zI z), .ref oa] (fun H => PR E x [(x, .inr (11, [.ref (x + 1), .ref (x + 29), .ref (x + 57), .ref (x + 85), .ref (x + 311), .ref (x + 314), .ref (x + 319), .ref (x + 332), .int (zI hs), .int (zI er), .int (zI fa), .int (zI ss)]))] H ∧ PR E (x + 1) (courtW E (x + 1) co) H ∧ PR E oa [(oa, .inl (E 102 4, 1, .inr (.inl lg)))] H) (fun rv H => rv = some (.int (zI 2))) := by
  refine MuW.start (own := RL) rfl (by decide +kernel) (Nat.le_of_ble_eq_true rfl) ?_
  intro p e s m below meth cd args Q hQ X hr hlk htab hM hPr
  obtain ⟨h_cm, h_co, h_out⟩ := hPr
  refine v_aload X dL_testify_0 2 rfl 5 rfl ?_
  refine v_iconst X dL_testify_2 3 rfl ?_
  refine v_aload_n X dL_testify_3 4 rfl 0 rfl ?_
  refine v_iload_n X dL_testify_4 5 rfl 1 rfl ?_
  refine v_iload_n X dL_testify_5 6 rfl 2 rfl ?_
  refine v_iload_n X dL_testify_6 7 rfl 3 rfl ?_
  refine v_iload X dL_testify_7 9 rfl 4 rfl ?_
  have hht : HT RL "java/lang/IllegalArgumentException" s [(0, 14, 17, 25), (0, 14, 21, 13), (0, 14, 25, 15)] 9 1 21 := ⟨(0, 14, 21, 13), rfl, rfl, by decide, by decide, xl_L_13, xc_IAE, by
    intro i z hi hz
    rcases (show i = 0 by omega) with rfl
    · cases hz; exact ⟨by decide, _, xl_L_25, hM.C.2.2.2.2.2.2.1 0 2 _ _ (by decide) rfl rfl⟩⟩
  refine v_txC X htab hM (h_cm.1) (x_X9_testify_2 l hl E x co hs er fa ss k w f z hO gk gw gz gf hf) kvX9_testify kiX9_testify kl_L_21 (q0 := 0) rfl rfl (As := [.int (zI k), .int (zI w), .int (zI f), .int (zI z)]) rfl rfl rfl dL_testify_9 1 21 hht (k' := 1) (n' := 6) rfl rfl (fun q hq => hq.elim) ⟨h_cm, h_co⟩ (fun q9 H1 lo1 hM hF hpo => ?_)
  replace h_cm := h_cm.kept hF 1 rfl (fun q _ _ h => h.elim)
  replace h_co := h_co.kept hF 28 rfl (fun q _ _ h => h.elim)
  replace h_out := h_out.kept hF 1 rfl (fun q _ _ h => h.elim)
  show V p l e (rmL 11 1 6) s m args below meth cd Q 7 H1 lo1 1 6 21 [(0, .ref x), (1, .int (zI k)), (2, .int (zI w)), (3, .int (zI f)), (4, .int (zI z)), (5, .ref oa)] [.ref q9]
  refine v_astore X dL_testify_21 23 rfl (by decide) (L' := [(6, .ref q9), (0, .ref x), (1, .int (zI k)), (2, .int (zI w)), (3, .int (zI f)), (4, .int (zI z)), (5, .ref oa)]) rfl ?_
  refine v_iconst X dL_testify_23 24 rfl ?_
  subst hQ; exact m_iret X hr hlk hM dL_testify_24 rfl rfl
set_option maxHeartbeats 4000000 in
set_option maxRecDepth 20000 in
theorem w_X9_testify_4_t (l : Launch) (hl : l.stackTraces = false) (E : Nat → Nat → Nat) (x : Nat) (co : Nat → Int → Int) (hs : Int) (er : Int) (fa : Int) (ss : Int) (k : Int) (w : Int) (f : Int) (z : Int) (oa : Nat) (lg : Nat → Int64) (hO : OkC co) (gk : Rg k) (gw : Rg w) (gz : Rg z) (gf : 0 ≤ f ∧ f ≤ 1) (hf : flC co 2 k w z = 4) : MuW l yL_testify cL_testify 7 (some .int) [(0, 14, 17, 25), (0, 14, 21, 13), (0, 14, 25, 15)] 11 1 6 E [] [.ref x, .int (zI k), .int (zI w), .int (zI f), .int (zI z), .ref oa] (fun H => PR E x [(x, .inr (11, [.ref (x + 1), .ref (x + 29), .ref (x + 57), .ref (x + 85), .ref (x + 311), .ref (x + 314), .ref (x + 319), .ref (x + 332), .int (zI hs), .int (zI er), .int (zI fa), .int (zI ss)]))] H ∧ PR E (x + 1) (courtW E (x + 1) co) H ∧ PR E oa [(oa, .inl (E 102 4, 1, .inr (.inl lg)))] H) (fun rv H => rv = some (.int (zI 3))) := by
  refine MuW.start (own := RL) rfl (by decide +kernel) (Nat.le_of_ble_eq_true rfl) ?_
  intro p e s m below meth cd args Q hQ X hr hlk htab hM hPr
  obtain ⟨h_cm, h_co, h_out⟩ := hPr
  refine v_aload X dL_testify_0 2 rfl 5 rfl ?_
  refine v_iconst X dL_testify_2 3 rfl ?_
  refine v_aload_n X dL_testify_3 4 rfl 0 rfl ?_
  refine v_iload_n X dL_testify_4 5 rfl 1 rfl ?_
  refine v_iload_n X dL_testify_5 6 rfl 2 rfl ?_
  refine v_iload_n X dL_testify_6 7 rfl 3 rfl ?_
  refine v_iload X dL_testify_7 9 rfl 4 rfl ?_
  have hht : HT RL "java/lang/IllegalStateException" s [(0, 14, 17, 25), (0, 14, 21, 13), (0, 14, 25, 15)] 9 2 25 := ⟨(0, 14, 25, 15), rfl, rfl, by decide, by decide, xl_L_15, xc_ISE, by
    intro i z hi hz
    rcases (show i = 0 ∨ i = 1 by omega) with rfl | rfl
    · cases hz; exact ⟨by decide, _, xl_L_25, hM.C.2.2.2.2.2.2.1 1 2 _ _ (by decide) rfl rfl⟩
    · cases hz; exact ⟨by decide, _, xl_L_13, hM.C.2.2.2.2.2.2.1 1 0 _ _ (by decide) rfl rfl⟩⟩
  refine v_txC X htab hM (h_cm.1) (x_X9_testify_4 l hl E x co hs er fa ss k w f z hO gk gw gz gf hf) kvX9_testify kiX9_testify kl_L_21 (q0 := 0) rfl rfl (As := [.int (zI k), .int (zI w), .int (zI f), .int (zI z)]) rfl rfl rfl dL_testify_9 2 25 hht (k' := 1) (n' := 6) rfl rfl (fun q hq => hq.elim) ⟨h_cm, h_co⟩ (fun q9 H1 lo1 hM hF hpo => ?_)
  replace h_cm := h_cm.kept hF 1 rfl (fun q _ _ h => h.elim)
  replace h_co := h_co.kept hF 28 rfl (fun q _ _ h => h.elim)
  replace h_out := h_out.kept hF 1 rfl (fun q _ _ h => h.elim)
  show V p l e (rmL 11 1 6) s m args below meth cd Q 7 H1 lo1 1 6 25 [(0, .ref x), (1, .int (zI k)), (2, .int (zI w)), (3, .int (zI f)), (4, .int (zI z)), (5, .ref oa)] [.ref q9]
  refine v_astore X dL_testify_25 27 rfl (by decide) (L' := [(6, .ref q9), (0, .ref x), (1, .int (zI k)), (2, .int (zI w)), (3, .int (zI f)), (4, .int (zI z)), (5, .ref oa)]) rfl ?_
  refine v_iconst X dL_testify_27 28 rfl ?_
  subst hQ; exact m_iret X hr hlk hM dL_testify_28 rfl rfl
set_option maxHeartbeats 4000000 in
set_option maxRecDepth 20000 in
theorem w_X9_question (l : Launch) (hl : l.stackTraces = false) (E : Nat → Nat → Nat) (x : Nat) (co : Nat → Int → Int) (hs : Int) (er : Int) (fa : Int) (ss : Int) (k : Int) (w : Int) (f : Int) (hc : Nat → Nat → Int → Int) (nx : Int) (sz : Int) (oa : Nat) (lg : Nat → Int64) (hO : OkC co) (gk : Rg k) (gw : Rg w) (gf : 0 ≤ f ∧ f ≤ 1) (hf : flC co 3 k w 0 = 0) (n0 : 0 ≤ nx) (n1 : nx < 8) (s0 : 0 ≤ sz) (s1 : sz ≤ 8) (hd_cm_co : x + 1 ≤ x + 1 ∨ x + 1 + 28 ≤ x) (hd_cm_hi : x + 1 ≤ x + 85 ∨ x + 85 + 2 ≤ x) (hd_cm_hf : x + 1 ≤ x + 87 ∨ x + 87 + 224 ≤ x) (hd_cm_out : x + 1 ≤ oa ∨ oa + 1 ≤ x) (hd_co_hi : x + 1 + 28 ≤ x + 85 ∨ x + 85 + 2 ≤ x + 1) (hd_co_hf : x + 1 + 28 ≤ x + 87 ∨ x + 87 + 224 ≤ x + 1) (hd_co_out : x + 1 + 28 ≤ oa ∨ oa + 1 ≤ x + 1) (hd_hi_hf : x + 85 + 2 ≤ x + 87 ∨ x + 87 + 224 ≤ x + 85) (hd_hi_out : x + 85 + 2 ≤ oa ∨ oa + 1 ≤ x + 85) (hd_hf_out : x + 87 + 224 ≤ oa ∨ oa + 1 ≤ x + 87) : MuW l yL_question cL_question 6 (some .int) [(0, 12, 15, 25), (0, 12, 19, 31), (0, 12, 23, 15)] 11 1 6 E [(x + 1, 28), (x + 85, 2), (x + 87, 224), (oa, 1)] [.ref x, .int (zI k), .int (zI w), .int (zI f), .ref oa] (fun H => PR E x [(x, .inr (11, [.ref (x + 1), .ref (x + 29), .ref (x + 57), .ref (x + 85), .ref (x + 311), .ref (x + 314), .ref (x + 319), .ref (x + 332), .int (zI hs), .int (zI er), .int (zI fa), .int (zI ss)]))] H ∧ PR E (x + 1) (courtW E (x + 1) co) H ∧ PR E (x + 85) [(x + 85, .inr (7, [.ref (x + 86), .int (zI nx), .int (zI sz)])), (x + 86, .inl (E 102 3, 8, .inr (.inr (.inr (.inr (hisA (x + 87) 8))))))] H ∧ HF E (x + 87) 8 hc H ∧ PR E oa [(oa, .inl (E 102 4, 1, .inr (.inl lg)))] H) (fun rv H => rv = some (.int (zI 0)) ∧ PR E (x + 1) (courtW E (x + 1) (opC co 3 k w f 0)) H ∧ PR E (x + 85) [(x + 85, .inr (7, [.ref (x + 86), .int (zI (if nx < 7 then nx + 1 else 0)), .int (zI (min (sz + 1) 8))])), (x + 86, .inl (E 102 3, 8, .inr (.inr (.inr (.inr (hisA (x + 87) 8))))))] H ∧ HF E (x + 87) 8 (fun j => if j = nx.toNat then co else hc j) H ∧ PR E oa [(oa, .inl (E 102 4, 1, .inr (.inl (fun _ => zL (opV co 3 k w f 0)))))] H) := by
  refine MuW.start (own := RL) rfl (by decide +kernel) (Nat.le_of_ble_eq_true rfl) ?_
  intro p e s m below meth cd args Q hQ X hr hlk htab hM hPr
  obtain ⟨h_cm, h_co, h_hi, h_hf, h_out⟩ := hPr
  refine v_aload X dL_question_0 2 rfl 4 rfl ?_
  refine v_iconst X dL_question_2 3 rfl ?_
  refine v_aload_n X dL_question_3 4 rfl 0 rfl ?_
  refine v_iload_n X dL_question_4 5 rfl 1 rfl ?_
  refine v_iload_n X dL_question_5 6 rfl 2 rfl ?_
  refine v_iload_n X dL_question_6 7 rfl 3 rfl ?_
  refine v_muV X hM (h_cm.1) (c_X9_question l E x co hs er fa ss k w f hc nx sz hO gk gw gf hf n0 n1 s0 s1 hd_cm_co hd_cm_hi hd_cm_hf hd_co_hi hd_co_hf hd_hi_hf) kvX9_question kiX9_question kl_L_27 (q0 := 0) rfl rfl (As := [.int (zI k), .int (zI w), .int (zI f)]) rfl rfl rfl dL_question_7 10 rfl (k' := 0) (n' := 0) rfl rfl (by intro q hq; simp only [Fr, Fs, or_false, false_or] at hq ⊢; omega) ⟨h_cm, h_co, h_hi, h_hf⟩ (fun rv H1 lo1 hM hF hpo => ?_)
  obtain ⟨rfl, hw_0, hw_1, hw_2⟩ := hpo
  have h_co : PR E (x + 1) (courtW E (x + 1) (opC co 3 k w f 0)) H1 := hw_0
  have h_hi : PR E (x + 85) [(x + 85, .inr (7, [.ref (x + 86), .int (zI (if nx < 7 then nx + 1 else 0)), .int (zI (min (sz + 1) 8))])), (x + 86, .inl (E 102 3, 8, .inr (.inr (.inr (.inr (hisA (x + 87) 8))))))] H1 := hw_1
  have h_hf : HF E (x + 87) 8 (fun j => if j = nx.toNat then co else hc j) H1 := hw_2
  replace h_cm := h_cm.kept hF 1 rfl (by intro q q1 q2 q3; simp only [Fs, or_false] at q3; omega)
  replace h_out := h_out.kept hF 1 rfl (by intro q q1 q2 q3; simp only [Fs, or_false] at q3; omega)
  show V p l e (rmL 11 1 6) s m args below meth cd Q 6 H1 lo1 0 0 10 [(0, .ref x), (1, .int (zI k)), (2, .int (zI w)), (3, .int (zI f)), (4, .ref oa)] [.int (zI (opV co 3 k w f 0)), .int (zI 0), .ref oa]
  have hb_2 := hO.b3 k
  refine v_i2l X dL_question_10 11 rfl ?_
  refine v_last X hM h_out 0 rfl (Or.inl (fsT (fsT (fsT (fsH (by omega) (by omega)))))) dL_question_11 12 rfl (ws' := [(oa, .inl (E 102 4, 1, .inr (.inl (fun _ => zL (opV co 3 k w f 0)))))]) rfl (fun H3 lo3 hzz hM hF h_out => ?_)
  clear hzz
  replace h_cm := h_cm.kept hF 1 rfl (fsd (by omega))
  replace h_co := h_co.kept hF 28 rfl (fsd (by omega))
  replace h_hi := h_hi.kept hF 2 rfl (fsd (by omega))
  replace h_hf := h_hf.kept hF (fsd (by omega))
  refine v_goto X dL_question_12 27 (by decide) ?_
  refine v_iconst X dL_question_27 28 rfl ?_
  subst hQ; exact m_iret X hr hlk hM dL_question_28 rfl ⟨rfl, h_co, h_hi, h_hf, h_out⟩
set_option maxHeartbeats 4000000 in
set_option maxRecDepth 20000 in
theorem w_X9_question_1_t (l : Launch) (hl : l.stackTraces = false) (E : Nat → Nat → Nat) (x : Nat) (co : Nat → Int → Int) (hs : Int) (er : Int) (fa : Int) (ss : Int) (k : Int) (w : Int) (f : Int) (oa : Nat) (lg : Nat → Int64) (hO : OkC co) (gk : Rg k) (gw : Rg w) (gf : 0 ≤ f ∧ f ≤ 1) (hf : flC co 3 k w 0 = 1) : MuW l yL_question cL_question 6 (some .int) [(0, 12, 15, 25), (0, 12, 19, 31), (0, 12, 23, 15)] 11 1 6 E [] [.ref x, .int (zI k), .int (zI w), .int (zI f), .ref oa] (fun H => PR E x [(x, .inr (11, [.ref (x + 1), .ref (x + 29), .ref (x + 57), .ref (x + 85), .ref (x + 311), .ref (x + 314), .ref (x + 319), .ref (x + 332), .int (zI hs), .int (zI er), .int (zI fa), .int (zI ss)]))] H ∧ PR E (x + 1) (courtW E (x + 1) co) H ∧ PR E oa [(oa, .inl (E 102 4, 1, .inr (.inl lg)))] H) (fun rv H => rv = some (.int (zI 1))) := by
  refine MuW.start (own := RL) rfl (by decide +kernel) (Nat.le_of_ble_eq_true rfl) ?_
  intro p e s m below meth cd args Q hQ X hr hlk htab hM hPr
  obtain ⟨h_cm, h_co, h_out⟩ := hPr
  refine v_aload X dL_question_0 2 rfl 4 rfl ?_
  refine v_iconst X dL_question_2 3 rfl ?_
  refine v_aload_n X dL_question_3 4 rfl 0 rfl ?_
  refine v_iload_n X dL_question_4 5 rfl 1 rfl ?_
  refine v_iload_n X dL_question_5 6 rfl 2 rfl ?_
  refine v_iload_n X dL_question_6 7 rfl 3 rfl ?_
  have hht : HT RL "java/lang/IndexOutOfBoundsException" s [(0, 12, 15, 25), (0, 12, 19, 31), (0, 12, 23, 15)] 7 0 15 := ⟨(0, 12, 15, 25), rfl, rfl, by decide, by decide, xl_L_25, xc_IOB, by
    intro i z hi hz
    omega⟩
  refine v_txC X htab hM (h_cm.1) (x_X9_question_1 l hl E x co hs er fa ss k w f hO gk gw gf hf) kvX9_question kiX9_question kl_L_27 (q0 := 0) rfl rfl (As := [.int (zI k), .int (zI w), .int (zI f)]) rfl rfl rfl dL_question_7 0 15 hht (k' := 1) (n' := 6) rfl rfl (fun q hq => hq.elim) ⟨h_cm, h_co⟩ (fun q9 H1 lo1 hM hF hpo => ?_)
  replace h_cm := h_cm.kept hF 1 rfl (fun q _ _ h => h.elim)
  replace h_co := h_co.kept hF 28 rfl (fun q _ _ h => h.elim)
  replace h_out := h_out.kept hF 1 rfl (fun q _ _ h => h.elim)
  show V p l e (rmL 11 1 6) s m args below meth cd Q 6 H1 lo1 1 6 15 [(0, .ref x), (1, .int (zI k)), (2, .int (zI w)), (3, .int (zI f)), (4, .ref oa)] [.ref q9]
  refine v_astore X dL_question_15 17 rfl (by decide) (L' := [(5, .ref q9), (0, .ref x), (1, .int (zI k)), (2, .int (zI w)), (3, .int (zI f)), (4, .ref oa)]) rfl ?_
  refine v_iconst X dL_question_17 18 rfl ?_
  subst hQ; exact m_iret X hr hlk hM dL_question_18 rfl rfl
set_option maxHeartbeats 4000000 in
set_option maxRecDepth 20000 in
theorem w_X9_question_3_t (l : Launch) (hl : l.stackTraces = false) (E : Nat → Nat → Nat) (x : Nat) (co : Nat → Int → Int) (hs : Int) (er : Int) (fa : Int) (ss : Int) (k : Int) (w : Int) (f : Int) (oa : Nat) (lg : Nat → Int64) (hO : OkC co) (gk : Rg k) (gw : Rg w) (gf : 0 ≤ f ∧ f ≤ 1) (hf : flC co 3 k w 0 = 3) : MuW l yL_question cL_question 6 (some .int) [(0, 12, 15, 25), (0, 12, 19, 31), (0, 12, 23, 15)] 11 1 6 E [] [.ref x, .int (zI k), .int (zI w), .int (zI f), .ref oa] (fun H => PR E x [(x, .inr (11, [.ref (x + 1), .ref (x + 29), .ref (x + 57), .ref (x + 85), .ref (x + 311), .ref (x + 314), .ref (x + 319), .ref (x + 332), .int (zI hs), .int (zI er), .int (zI fa), .int (zI ss)]))] H ∧ PR E (x + 1) (courtW E (x + 1) co) H ∧ PR E oa [(oa, .inl (E 102 4, 1, .inr (.inl lg)))] H) (fun rv H => rv = some (.int (zI 2))) := by
  refine MuW.start (own := RL) rfl (by decide +kernel) (Nat.le_of_ble_eq_true rfl) ?_
  intro p e s m below meth cd args Q hQ X hr hlk htab hM hPr
  obtain ⟨h_cm, h_co, h_out⟩ := hPr
  refine v_aload X dL_question_0 2 rfl 4 rfl ?_
  refine v_iconst X dL_question_2 3 rfl ?_
  refine v_aload_n X dL_question_3 4 rfl 0 rfl ?_
  refine v_iload_n X dL_question_4 5 rfl 1 rfl ?_
  refine v_iload_n X dL_question_5 6 rfl 2 rfl ?_
  refine v_iload_n X dL_question_6 7 rfl 3 rfl ?_
  have hht : HT RL "java/util/NoSuchElementException" s [(0, 12, 15, 25), (0, 12, 19, 31), (0, 12, 23, 15)] 7 1 19 := ⟨(0, 12, 19, 31), rfl, rfl, by decide, by decide, xl_L_31, xc_NSE, by
    intro i z hi hz
    rcases (show i = 0 by omega) with rfl
    · cases hz; exact ⟨by decide, _, xl_L_25, hM.C.2.2.2.2.2.2.1 3 2 _ _ (by decide) rfl rfl⟩⟩
  refine v_txC X htab hM (h_cm.1) (x_X9_question_3 l hl E x co hs er fa ss k w f hO gk gw gf hf) kvX9_question kiX9_question kl_L_27 (q0 := 0) rfl rfl (As := [.int (zI k), .int (zI w), .int (zI f)]) rfl rfl rfl dL_question_7 1 19 hht (k' := 1) (n' := 6) rfl rfl (fun q hq => hq.elim) ⟨h_cm, h_co⟩ (fun q9 H1 lo1 hM hF hpo => ?_)
  replace h_cm := h_cm.kept hF 1 rfl (fun q _ _ h => h.elim)
  replace h_co := h_co.kept hF 28 rfl (fun q _ _ h => h.elim)
  replace h_out := h_out.kept hF 1 rfl (fun q _ _ h => h.elim)
  show V p l e (rmL 11 1 6) s m args below meth cd Q 6 H1 lo1 1 6 19 [(0, .ref x), (1, .int (zI k)), (2, .int (zI w)), (3, .int (zI f)), (4, .ref oa)] [.ref q9]
  refine v_astore X dL_question_19 21 rfl (by decide) (L' := [(5, .ref q9), (0, .ref x), (1, .int (zI k)), (2, .int (zI w)), (3, .int (zI f)), (4, .ref oa)]) rfl ?_
  refine v_iconst X dL_question_21 22 rfl ?_
  subst hQ; exact m_iret X hr hlk hM dL_question_22 rfl rfl
set_option maxHeartbeats 4000000 in
set_option maxRecDepth 20000 in
theorem w_X9_question_4_t (l : Launch) (hl : l.stackTraces = false) (E : Nat → Nat → Nat) (x : Nat) (co : Nat → Int → Int) (hs : Int) (er : Int) (fa : Int) (ss : Int) (k : Int) (w : Int) (f : Int) (oa : Nat) (lg : Nat → Int64) (hO : OkC co) (gk : Rg k) (gw : Rg w) (gf : 0 ≤ f ∧ f ≤ 1) (hf : flC co 3 k w 0 = 4) : MuW l yL_question cL_question 6 (some .int) [(0, 12, 15, 25), (0, 12, 19, 31), (0, 12, 23, 15)] 11 1 6 E [] [.ref x, .int (zI k), .int (zI w), .int (zI f), .ref oa] (fun H => PR E x [(x, .inr (11, [.ref (x + 1), .ref (x + 29), .ref (x + 57), .ref (x + 85), .ref (x + 311), .ref (x + 314), .ref (x + 319), .ref (x + 332), .int (zI hs), .int (zI er), .int (zI fa), .int (zI ss)]))] H ∧ PR E (x + 1) (courtW E (x + 1) co) H ∧ PR E oa [(oa, .inl (E 102 4, 1, .inr (.inl lg)))] H) (fun rv H => rv = some (.int (zI 3))) := by
  refine MuW.start (own := RL) rfl (by decide +kernel) (Nat.le_of_ble_eq_true rfl) ?_
  intro p e s m below meth cd args Q hQ X hr hlk htab hM hPr
  obtain ⟨h_cm, h_co, h_out⟩ := hPr
  refine v_aload X dL_question_0 2 rfl 4 rfl ?_
  refine v_iconst X dL_question_2 3 rfl ?_
  refine v_aload_n X dL_question_3 4 rfl 0 rfl ?_
  refine v_iload_n X dL_question_4 5 rfl 1 rfl ?_
  refine v_iload_n X dL_question_5 6 rfl 2 rfl ?_
  refine v_iload_n X dL_question_6 7 rfl 3 rfl ?_
  have hht : HT RL "java/lang/IllegalStateException" s [(0, 12, 15, 25), (0, 12, 19, 31), (0, 12, 23, 15)] 7 2 23 := ⟨(0, 12, 23, 15), rfl, rfl, by decide, by decide, xl_L_15, xc_ISE, by
    intro i z hi hz
    rcases (show i = 0 ∨ i = 1 by omega) with rfl | rfl
    · cases hz; exact ⟨by decide, _, xl_L_25, hM.C.2.2.2.2.2.2.1 1 2 _ _ (by decide) rfl rfl⟩
    · cases hz; exact ⟨by decide, _, xl_L_31, hM.C.2.2.2.2.2.2.1 1 3 _ _ (by decide) rfl rfl⟩⟩
  refine v_txC X htab hM (h_cm.1) (x_X9_question_4 l hl E x co hs er fa ss k w f hO gk gw gf hf) kvX9_question kiX9_question kl_L_27 (q0 := 0) rfl rfl (As := [.int (zI k), .int (zI w), .int (zI f)]) rfl rfl rfl dL_question_7 2 23 hht (k' := 1) (n' := 6) rfl rfl (fun q hq => hq.elim) ⟨h_cm, h_co⟩ (fun q9 H1 lo1 hM hF hpo => ?_)
  replace h_cm := h_cm.kept hF 1 rfl (fun q _ _ h => h.elim)
  replace h_co := h_co.kept hF 28 rfl (fun q _ _ h => h.elim)
  replace h_out := h_out.kept hF 1 rfl (fun q _ _ h => h.elim)
  show V p l e (rmL 11 1 6) s m args below meth cd Q 6 H1 lo1 1 6 23 [(0, .ref x), (1, .int (zI k)), (2, .int (zI w)), (3, .int (zI f)), (4, .ref oa)] [.ref q9]
  refine v_astore X dL_question_23 25 rfl (by decide) (L' := [(5, .ref q9), (0, .ref x), (1, .int (zI k)), (2, .int (zI w)), (3, .int (zI f)), (4, .ref oa)]) rfl ?_
  refine v_iconst X dL_question_25 26 rfl ?_
  subst hQ; exact m_iret X hr hlk hM dL_question_26 rfl rfl
set_option maxHeartbeats 4000000 in
set_option maxRecDepth 20000 in
theorem w_X9_decide (l : Launch) (hl : l.stackTraces = false) (E : Nat → Nat → Nat) (x : Nat) (co : Nat → Int → Int) (hs : Int) (er : Int) (fa : Int) (ss : Int) (k : Int) (hc : Nat → Nat → Int → Int) (nx : Int) (sz : Int) (oa : Nat) (lg : Nat → Int64) (hO : OkC co) (gk : Rg k) (hf : flC co 4 k 0 0 = 0) (n0 : 0 ≤ nx) (n1 : nx < 8) (s0 : 0 ≤ sz) (s1 : sz ≤ 8) (hd_cm_co : x + 1 ≤ x + 1 ∨ x + 1 + 28 ≤ x) (hd_cm_hi : x + 1 ≤ x + 85 ∨ x + 85 + 2 ≤ x) (hd_cm_hf : x + 1 ≤ x + 87 ∨ x + 87 + 224 ≤ x) (hd_cm_out : x + 1 ≤ oa ∨ oa + 1 ≤ x) (hd_co_hi : x + 1 + 28 ≤ x + 85 ∨ x + 85 + 2 ≤ x + 1) (hd_co_hf : x + 1 + 28 ≤ x + 87 ∨ x + 87 + 224 ≤ x + 1) (hd_co_out : x + 1 + 28 ≤ oa ∨ oa + 1 ≤ x + 1) (hd_hi_hf : x + 85 + 2 ≤ x + 87 ∨ x + 87 + 224 ≤ x + 85) (hd_hi_out : x + 85 + 2 ≤ oa ∨ oa + 1 ≤ x + 85) (hd_hf_out : x + 87 + 224 ≤ oa ∨ oa + 1 ≤ x + 87) : MuW l yL_decide cL_decide 4 (some .int) [(0, 16, 19, 25), (0, 16, 22, 15)] 11 1 6 E [(x + 1, 28), (x + 85, 2), (x + 87, 224), (oa, 1)] [.ref x, .int (zI k), .ref oa] (fun H => PR E x [(x, .inr (11, [.ref (x + 1), .ref (x + 29), .ref (x + 57), .ref (x + 85), .ref (x + 311), .ref (x + 314), .ref (x + 319), .ref (x + 332), .int (zI hs), .int (zI er), .int (zI fa), .int (zI ss)]))] H ∧ PR E (x + 1) (courtW E (x + 1) co) H ∧ PR E (x + 85) [(x + 85, .inr (7, [.ref (x + 86), .int (zI nx), .int (zI sz)])), (x + 86, .inl (E 102 3, 8, .inr (.inr (.inr (.inr (hisA (x + 87) 8))))))] H ∧ HF E (x + 87) 8 hc H ∧ PR E oa [(oa, .inl (E 102 4, 1, .inr (.inl lg)))] H) (fun rv H => rv = some (.int (zI 0)) ∧ PR E (x + 1) (courtW E (x + 1) (opC co 4 k 0 0 0)) H ∧ PR E (x + 85) [(x + 85, .inr (7, [.ref (x + 86), .int (zI (if nx < 7 then nx + 1 else 0)), .int (zI (min (sz + 1) 8))])), (x + 86, .inl (E 102 3, 8, .inr (.inr (.inr (.inr (hisA (x + 87) 8))))))] H ∧ HF E (x + 87) 8 (fun j => if j = nx.toNat then co else hc j) H ∧ PR E oa [(oa, .inl (E 102 4, 1, .inr (.inl (fun _ => zL (bz (¬ opV co 4 k 0 0 0 = 0))))))] H) := by
  refine MuW.start (own := RL) rfl (by decide +kernel) (Nat.le_of_ble_eq_true rfl) ?_
  intro p e s m below meth cd args Q hQ X hr hlk htab hM hPr
  obtain ⟨h_cm, h_co, h_hi, h_hf, h_out⟩ := hPr
  refine v_aload_n X dL_decide_0 1 rfl 2 rfl ?_
  refine v_iconst X dL_decide_1 2 rfl ?_
  refine v_aload_n X dL_decide_2 3 rfl 0 rfl ?_
  refine v_iload_n X dL_decide_3 4 rfl 1 rfl ?_
  refine v_muV X hM (h_cm.1) (c_X9_decide l E x co hs er fa ss k hc nx sz hO gk hf n0 n1 s0 s1 hd_cm_co hd_cm_hi hd_cm_hf hd_co_hi hd_co_hf hd_hi_hf) kvX9_decide kiX9_decide kl_L_33 (q0 := 0) rfl rfl (As := [.int (zI k)]) rfl rfl rfl dL_decide_4 7 rfl (k' := 0) (n' := 0) rfl rfl (by intro q hq; simp only [Fr, Fs, or_false, false_or] at hq ⊢; omega) ⟨h_cm, h_co, h_hi, h_hf⟩ (fun rv H1 lo1 hM hF hpo => ?_)
  obtain ⟨rfl, hw_0, hw_1, hw_2⟩ := hpo
  have h_co : PR E (x + 1) (courtW E (x + 1) (opC co 4 k 0 0 0)) H1 := hw_0
  have h_hi : PR E (x + 85) [(x + 85, .inr (7, [.ref (x + 86), .int (zI (if nx < 7 then nx + 1 else 0)), .int (zI (min (sz + 1) 8))])), (x + 86, .inl (E 102 3, 8, .inr (.inr (.inr (.inr (hisA (x + 87) 8))))))] H1 := hw_1
  have h_hf : HF E (x + 87) 8 (fun j => if j = nx.toNat then co else hc j) H1 := hw_2
  replace h_cm := h_cm.kept hF 1 rfl (by intro q q1 q2 q3; simp only [Fs, or_false] at q3; omega)
  replace h_out := h_out.kept hF 1 rfl (by intro q q1 q2 q3; simp only [Fs, or_false] at q3; omega)
  show V p l e (rmL 11 1 6) s m args below meth cd Q 4 H1 lo1 0 0 7 [(0, .ref x), (1, .int (zI k)), (2, .ref oa)] [.int (zI (bz (¬ opV co 4 k 0 0 0 = 0))), .int (zI 0), .ref oa]
  refine v_bif_eq X dL_decide_7 10 14 rfl (by decide) (fun c_2 => ?_) (fun c_2 => ?_)
  · skip
    refine v_lconst 0 X dL_decide_14 rfl 15 rfl ?_
    refine v_last X hM h_out 0 rfl (Or.inl (fsT (fsT (fsT (fsH (by omega) (by omega)))))) dL_decide_15 16 rfl (ws' := [(oa, .inl (E 102 4, 1, .inr (.inl (fun _ => zL 0))))]) rfl (fun H3 lo3 hzz hM hF h_out => ?_)
    clear hzz
    replace h_cm := h_cm.kept hF 1 rfl (fsd (by omega))
    replace h_co := h_co.kept hF 28 rfl (fsd (by omega))
    replace h_hi := h_hi.kept hF 2 rfl (fsd (by omega))
    replace h_hf := h_hf.kept hF (fsd (by omega))
    refine v_goto X dL_decide_16 25 (by decide) ?_
    refine v_iconst X dL_decide_25 26 rfl ?_
    subst hQ; exact m_iret X hr hlk hM dL_decide_26 rfl ⟨rfl, h_co, h_hi, h_hf, (PR.to h_out (by first | rw [bz_t (φ := ¬ opV co 4 k 0 0 0 = 0) (by assumption)] | rw [bz_f (φ := ¬ opV co 4 k 0 0 0 = 0) (by assumption)]))⟩
  · skip
    refine v_lconst 1 X dL_decide_10 rfl 11 rfl ?_
    refine v_goto X dL_decide_11 15 (by decide) ?_
    refine v_last X hM h_out 0 rfl (Or.inl (fsT (fsT (fsT (fsH (by omega) (by omega)))))) dL_decide_15 16 rfl (ws' := [(oa, .inl (E 102 4, 1, .inr (.inl (fun _ => zL 1))))]) rfl (fun H4 lo4 hzz hM hF h_out => ?_)
    clear hzz
    replace h_cm := h_cm.kept hF 1 rfl (fsd (by omega))
    replace h_co := h_co.kept hF 28 rfl (fsd (by omega))
    replace h_hi := h_hi.kept hF 2 rfl (fsd (by omega))
    replace h_hf := h_hf.kept hF (fsd (by omega))
    refine v_goto X dL_decide_16 25 (by decide) ?_
    refine v_iconst X dL_decide_25 26 rfl ?_
    subst hQ; exact m_iret X hr hlk hM dL_decide_26 rfl ⟨rfl, h_co, h_hi, h_hf, (PR.to h_out (by first | rw [bz_t (φ := ¬ opV co 4 k 0 0 0 = 0) (by assumption)] | rw [bz_f (φ := ¬ opV co 4 k 0 0 0 = 0) (by assumption)]))⟩
set_option maxHeartbeats 4000000 in
set_option maxRecDepth 20000 in
theorem w_X9_decide_1_t (l : Launch) (hl : l.stackTraces = false) (E : Nat → Nat → Nat) (x : Nat) (co : Nat → Int → Int) (hs : Int) (er : Int) (fa : Int) (ss : Int) (k : Int) (oa : Nat) (lg : Nat → Int64) (hO : OkC co) (gk : Rg k) (hf : flC co 4 k 0 0 = 1) : MuW l yL_decide cL_decide 4 (some .int) [(0, 16, 19, 25), (0, 16, 22, 15)] 11 1 6 E [] [.ref x, .int (zI k), .ref oa] (fun H => PR E x [(x, .inr (11, [.ref (x + 1), .ref (x + 29), .ref (x + 57), .ref (x + 85), .ref (x + 311), .ref (x + 314), .ref (x + 319), .ref (x + 332), .int (zI hs), .int (zI er), .int (zI fa), .int (zI ss)]))] H ∧ PR E (x + 1) (courtW E (x + 1) co) H ∧ PR E oa [(oa, .inl (E 102 4, 1, .inr (.inl lg)))] H) (fun rv H => rv = some (.int (zI 1))) := by
  refine MuW.start (own := RL) rfl (by decide +kernel) (Nat.le_of_ble_eq_true rfl) ?_
  intro p e s m below meth cd args Q hQ X hr hlk htab hM hPr
  obtain ⟨h_cm, h_co, h_out⟩ := hPr
  refine v_aload_n X dL_decide_0 1 rfl 2 rfl ?_
  refine v_iconst X dL_decide_1 2 rfl ?_
  refine v_aload_n X dL_decide_2 3 rfl 0 rfl ?_
  refine v_iload_n X dL_decide_3 4 rfl 1 rfl ?_
  have hht : HT RL "java/lang/IndexOutOfBoundsException" s [(0, 16, 19, 25), (0, 16, 22, 15)] 4 0 19 := ⟨(0, 16, 19, 25), rfl, rfl, by decide, by decide, xl_L_25, xc_IOB, by
    intro i z hi hz
    omega⟩
  refine v_txC X htab hM (h_cm.1) (x_X9_decide_1 l hl E x co hs er fa ss k hO gk hf) kvX9_decide kiX9_decide kl_L_33 (q0 := 0) rfl rfl (As := [.int (zI k)]) rfl rfl rfl dL_decide_4 0 19 hht (k' := 1) (n' := 6) rfl rfl (fun q hq => hq.elim) ⟨h_cm, h_co⟩ (fun q9 H1 lo1 hM hF hpo => ?_)
  replace h_cm := h_cm.kept hF 1 rfl (fun q _ _ h => h.elim)
  replace h_co := h_co.kept hF 28 rfl (fun q _ _ h => h.elim)
  replace h_out := h_out.kept hF 1 rfl (fun q _ _ h => h.elim)
  show V p l e (rmL 11 1 6) s m args below meth cd Q 4 H1 lo1 1 6 19 [(0, .ref x), (1, .int (zI k)), (2, .ref oa)] [.ref q9]
  refine v_astore_n X dL_decide_19 20 rfl rfl (by decide) (L' := [(3, .ref q9), (0, .ref x), (1, .int (zI k)), (2, .ref oa)]) rfl ?_
  refine v_iconst X dL_decide_20 21 rfl ?_
  subst hQ; exact m_iret X hr hlk hM dL_decide_21 rfl rfl
set_option maxHeartbeats 4000000 in
set_option maxRecDepth 20000 in
theorem w_X9_decide_4_t (l : Launch) (hl : l.stackTraces = false) (E : Nat → Nat → Nat) (x : Nat) (co : Nat → Int → Int) (hs : Int) (er : Int) (fa : Int) (ss : Int) (k : Int) (oa : Nat) (lg : Nat → Int64) (hO : OkC co) (gk : Rg k) (hf : flC co 4 k 0 0 = 4) : MuW l yL_decide cL_decide 4 (some .int) [(0, 16, 19, 25), (0, 16, 22, 15)] 11 1 6 E [] [.ref x, .int (zI k), .ref oa] (fun H => PR E x [(x, .inr (11, [.ref (x + 1), .ref (x + 29), .ref (x + 57), .ref (x + 85), .ref (x + 311), .ref (x + 314), .ref (x + 319), .ref (x + 332), .int (zI hs), .int (zI er), .int (zI fa), .int (zI ss)]))] H ∧ PR E (x + 1) (courtW E (x + 1) co) H ∧ PR E oa [(oa, .inl (E 102 4, 1, .inr (.inl lg)))] H) (fun rv H => rv = some (.int (zI 2))) := by
  refine MuW.start (own := RL) rfl (by decide +kernel) (Nat.le_of_ble_eq_true rfl) ?_
  intro p e s m below meth cd args Q hQ X hr hlk htab hM hPr
  obtain ⟨h_cm, h_co, h_out⟩ := hPr
  refine v_aload_n X dL_decide_0 1 rfl 2 rfl ?_
  refine v_iconst X dL_decide_1 2 rfl ?_
  refine v_aload_n X dL_decide_2 3 rfl 0 rfl ?_
  refine v_iload_n X dL_decide_3 4 rfl 1 rfl ?_
  have hht : HT RL "java/lang/IllegalStateException" s [(0, 16, 19, 25), (0, 16, 22, 15)] 4 1 22 := ⟨(0, 16, 22, 15), rfl, rfl, by decide, by decide, xl_L_15, xc_ISE, by
    intro i z hi hz
    rcases (show i = 0 by omega) with rfl
    · cases hz; exact ⟨by decide, _, xl_L_25, hM.C.2.2.2.2.2.2.1 1 2 _ _ (by decide) rfl rfl⟩⟩
  refine v_txC X htab hM (h_cm.1) (x_X9_decide_4 l hl E x co hs er fa ss k hO gk hf) kvX9_decide kiX9_decide kl_L_33 (q0 := 0) rfl rfl (As := [.int (zI k)]) rfl rfl rfl dL_decide_4 1 22 hht (k' := 1) (n' := 6) rfl rfl (fun q hq => hq.elim) ⟨h_cm, h_co⟩ (fun q9 H1 lo1 hM hF hpo => ?_)
  replace h_cm := h_cm.kept hF 1 rfl (fun q _ _ h => h.elim)
  replace h_co := h_co.kept hF 28 rfl (fun q _ _ h => h.elim)
  replace h_out := h_out.kept hF 1 rfl (fun q _ _ h => h.elim)
  show V p l e (rmL 11 1 6) s m args below meth cd Q 4 H1 lo1 1 6 22 [(0, .ref x), (1, .int (zI k)), (2, .ref oa)] [.ref q9]
  refine v_astore_n X dL_decide_22 23 rfl rfl (by decide) (L' := [(3, .ref q9), (0, .ref x), (1, .int (zI k)), (2, .ref oa)]) rfl ?_
  refine v_iconst X dL_decide_23 24 rfl ?_
  subst hQ; exact m_iret X hr hlk hM dL_decide_24 rfl rfl
set_option maxHeartbeats 4000000 in
set_option maxRecDepth 20000 in
theorem w_X9_appeal (l : Launch) (hl : l.stackTraces = false) (E : Nat → Nat → Nat) (x : Nat) (co : Nat → Int → Int) (hs : Int) (er : Int) (fa : Int) (ss : Int) (k : Int) (hc : Nat → Nat → Int → Int) (nx : Int) (sz : Int) (oa : Nat) (lg : Nat → Int64) (hO : OkC co) (gk : Rg k) (hf : flC co 5 k 0 0 = 0) (n0 : 0 ≤ nx) (n1 : nx < 8) (s0 : 0 ≤ sz) (s1 : sz ≤ 8) (hd_cm_co : x + 1 ≤ x + 1 ∨ x + 1 + 28 ≤ x) (hd_cm_hi : x + 1 ≤ x + 85 ∨ x + 85 + 2 ≤ x) (hd_cm_hf : x + 1 ≤ x + 87 ∨ x + 87 + 224 ≤ x) (hd_cm_out : x + 1 ≤ oa ∨ oa + 1 ≤ x) (hd_co_hi : x + 1 + 28 ≤ x + 85 ∨ x + 85 + 2 ≤ x + 1) (hd_co_hf : x + 1 + 28 ≤ x + 87 ∨ x + 87 + 224 ≤ x + 1) (hd_co_out : x + 1 + 28 ≤ oa ∨ oa + 1 ≤ x + 1) (hd_hi_hf : x + 85 + 2 ≤ x + 87 ∨ x + 87 + 224 ≤ x + 85) (hd_hi_out : x + 85 + 2 ≤ oa ∨ oa + 1 ≤ x + 85) (hd_hf_out : x + 87 + 224 ≤ oa ∨ oa + 1 ≤ x + 87) : MuW l yL_appeal cL_appeal 4 (some .int) [(0, 9, 12, 25), (0, 9, 15, 15)] 11 1 6 E [(x + 1, 28), (x + 85, 2), (x + 87, 224), (oa, 1)] [.ref x, .int (zI k), .ref oa] (fun H => PR E x [(x, .inr (11, [.ref (x + 1), .ref (x + 29), .ref (x + 57), .ref (x + 85), .ref (x + 311), .ref (x + 314), .ref (x + 319), .ref (x + 332), .int (zI hs), .int (zI er), .int (zI fa), .int (zI ss)]))] H ∧ PR E (x + 1) (courtW E (x + 1) co) H ∧ PR E (x + 85) [(x + 85, .inr (7, [.ref (x + 86), .int (zI nx), .int (zI sz)])), (x + 86, .inl (E 102 3, 8, .inr (.inr (.inr (.inr (hisA (x + 87) 8))))))] H ∧ HF E (x + 87) 8 hc H ∧ PR E oa [(oa, .inl (E 102 4, 1, .inr (.inl lg)))] H) (fun rv H => rv = some (.int (zI 0)) ∧ PR E (x + 1) (courtW E (x + 1) (opC co 5 k 0 0 0)) H ∧ PR E (x + 85) [(x + 85, .inr (7, [.ref (x + 86), .int (zI (if nx < 7 then nx + 1 else 0)), .int (zI (min (sz + 1) 8))])), (x + 86, .inl (E 102 3, 8, .inr (.inr (.inr (.inr (hisA (x + 87) 8))))))] H ∧ HF E (x + 87) 8 (fun j => if j = nx.toNat then co else hc j) H ∧ PR E oa [(oa, .inl (E 102 4, 1, .inr (.inl (fun _ => zL (opV co 5 k 0 0 0)))))] H) := by
  refine MuW.start (own := RL) rfl (by decide +kernel) (Nat.le_of_ble_eq_true rfl) ?_
  intro p e s m below meth cd args Q hQ X hr hlk htab hM hPr
  obtain ⟨h_cm, h_co, h_hi, h_hf, h_out⟩ := hPr
  refine v_aload_n X dL_appeal_0 1 rfl 2 rfl ?_
  refine v_iconst X dL_appeal_1 2 rfl ?_
  refine v_aload_n X dL_appeal_2 3 rfl 0 rfl ?_
  refine v_iload_n X dL_appeal_3 4 rfl 1 rfl ?_
  refine v_muV X hM (h_cm.1) (c_X9_appeal l E x co hs er fa ss k hc nx sz hO gk hf n0 n1 s0 s1 hd_cm_co hd_cm_hi hd_cm_hf hd_co_hi hd_co_hf hd_hi_hf) kvX9_appeal kiX9_appeal kl_L_37 (q0 := 0) rfl rfl (As := [.int (zI k)]) rfl rfl rfl dL_appeal_4 7 rfl (k' := 0) (n' := 0) rfl rfl (by intro q hq; simp only [Fr, Fs, or_false, false_or] at hq ⊢; omega) ⟨h_cm, h_co, h_hi, h_hf⟩ (fun rv H1 lo1 hM hF hpo => ?_)
  obtain ⟨rfl, hw_0, hw_1, hw_2⟩ := hpo
  have h_co : PR E (x + 1) (courtW E (x + 1) (opC co 5 k 0 0 0)) H1 := hw_0
  have h_hi : PR E (x + 85) [(x + 85, .inr (7, [.ref (x + 86), .int (zI (if nx < 7 then nx + 1 else 0)), .int (zI (min (sz + 1) 8))])), (x + 86, .inl (E 102 3, 8, .inr (.inr (.inr (.inr (hisA (x + 87) 8))))))] H1 := hw_1
  have h_hf : HF E (x + 87) 8 (fun j => if j = nx.toNat then co else hc j) H1 := hw_2
  replace h_cm := h_cm.kept hF 1 rfl (by intro q q1 q2 q3; simp only [Fs, or_false] at q3; omega)
  replace h_out := h_out.kept hF 1 rfl (by intro q q1 q2 q3; simp only [Fs, or_false] at q3; omega)
  show V p l e (rmL 11 1 6) s m args below meth cd Q 4 H1 lo1 0 0 7 [(0, .ref x), (1, .int (zI k)), (2, .ref oa)] [.int (zI (opV co 5 k 0 0 0)), .int (zI 0), .ref oa]
  have hb_2 := hO.b5 k
  refine v_i2l X dL_appeal_7 8 rfl ?_
  refine v_last X hM h_out 0 rfl (Or.inl (fsT (fsT (fsT (fsH (by omega) (by omega)))))) dL_appeal_8 9 rfl (ws' := [(oa, .inl (E 102 4, 1, .inr (.inl (fun _ => zL (opV co 5 k 0 0 0)))))]) rfl (fun H3 lo3 hzz hM hF h_out => ?_)
  clear hzz
  replace h_cm := h_cm.kept hF 1 rfl (fsd (by omega))
  replace h_co := h_co.kept hF 28 rfl (fsd (by omega))
  replace h_hi := h_hi.kept hF 2 rfl (fsd (by omega))
  replace h_hf := h_hf.kept hF (fsd (by omega))
  refine v_goto X dL_appeal_9 18 (by decide) ?_
  refine v_iconst X dL_appeal_18 19 rfl ?_
  subst hQ; exact m_iret X hr hlk hM dL_appeal_19 rfl ⟨rfl, h_co, h_hi, h_hf, h_out⟩
set_option maxHeartbeats 4000000 in
set_option maxRecDepth 20000 in
theorem w_X9_appeal_1_t (l : Launch) (hl : l.stackTraces = false) (E : Nat → Nat → Nat) (x : Nat) (co : Nat → Int → Int) (hs : Int) (er : Int) (fa : Int) (ss : Int) (k : Int) (oa : Nat) (lg : Nat → Int64) (hO : OkC co) (gk : Rg k) (hf : flC co 5 k 0 0 = 1) : MuW l yL_appeal cL_appeal 4 (some .int) [(0, 9, 12, 25), (0, 9, 15, 15)] 11 1 6 E [] [.ref x, .int (zI k), .ref oa] (fun H => PR E x [(x, .inr (11, [.ref (x + 1), .ref (x + 29), .ref (x + 57), .ref (x + 85), .ref (x + 311), .ref (x + 314), .ref (x + 319), .ref (x + 332), .int (zI hs), .int (zI er), .int (zI fa), .int (zI ss)]))] H ∧ PR E (x + 1) (courtW E (x + 1) co) H ∧ PR E oa [(oa, .inl (E 102 4, 1, .inr (.inl lg)))] H) (fun rv H => rv = some (.int (zI 1))) := by
  refine MuW.start (own := RL) rfl (by decide +kernel) (Nat.le_of_ble_eq_true rfl) ?_
  intro p e s m below meth cd args Q hQ X hr hlk htab hM hPr
  obtain ⟨h_cm, h_co, h_out⟩ := hPr
  refine v_aload_n X dL_appeal_0 1 rfl 2 rfl ?_
  refine v_iconst X dL_appeal_1 2 rfl ?_
  refine v_aload_n X dL_appeal_2 3 rfl 0 rfl ?_
  refine v_iload_n X dL_appeal_3 4 rfl 1 rfl ?_
  have hht : HT RL "java/lang/IndexOutOfBoundsException" s [(0, 9, 12, 25), (0, 9, 15, 15)] 4 0 12 := ⟨(0, 9, 12, 25), rfl, rfl, by decide, by decide, xl_L_25, xc_IOB, by
    intro i z hi hz
    omega⟩
  refine v_txC X htab hM (h_cm.1) (x_X9_appeal_1 l hl E x co hs er fa ss k hO gk hf) kvX9_appeal kiX9_appeal kl_L_37 (q0 := 0) rfl rfl (As := [.int (zI k)]) rfl rfl rfl dL_appeal_4 0 12 hht (k' := 1) (n' := 6) rfl rfl (fun q hq => hq.elim) ⟨h_cm, h_co⟩ (fun q9 H1 lo1 hM hF hpo => ?_)
  replace h_cm := h_cm.kept hF 1 rfl (fun q _ _ h => h.elim)
  replace h_co := h_co.kept hF 28 rfl (fun q _ _ h => h.elim)
  replace h_out := h_out.kept hF 1 rfl (fun q _ _ h => h.elim)
  show V p l e (rmL 11 1 6) s m args below meth cd Q 4 H1 lo1 1 6 12 [(0, .ref x), (1, .int (zI k)), (2, .ref oa)] [.ref q9]
  refine v_astore_n X dL_appeal_12 13 rfl rfl (by decide) (L' := [(3, .ref q9), (0, .ref x), (1, .int (zI k)), (2, .ref oa)]) rfl ?_
  refine v_iconst X dL_appeal_13 14 rfl ?_
  subst hQ; exact m_iret X hr hlk hM dL_appeal_14 rfl rfl
set_option maxHeartbeats 4000000 in
set_option maxRecDepth 20000 in
theorem w_X9_appeal_4_t (l : Launch) (hl : l.stackTraces = false) (E : Nat → Nat → Nat) (x : Nat) (co : Nat → Int → Int) (hs : Int) (er : Int) (fa : Int) (ss : Int) (k : Int) (oa : Nat) (lg : Nat → Int64) (hO : OkC co) (gk : Rg k) (hf : flC co 5 k 0 0 = 4) : MuW l yL_appeal cL_appeal 4 (some .int) [(0, 9, 12, 25), (0, 9, 15, 15)] 11 1 6 E [] [.ref x, .int (zI k), .ref oa] (fun H => PR E x [(x, .inr (11, [.ref (x + 1), .ref (x + 29), .ref (x + 57), .ref (x + 85), .ref (x + 311), .ref (x + 314), .ref (x + 319), .ref (x + 332), .int (zI hs), .int (zI er), .int (zI fa), .int (zI ss)]))] H ∧ PR E (x + 1) (courtW E (x + 1) co) H ∧ PR E oa [(oa, .inl (E 102 4, 1, .inr (.inl lg)))] H) (fun rv H => rv = some (.int (zI 2))) := by
  refine MuW.start (own := RL) rfl (by decide +kernel) (Nat.le_of_ble_eq_true rfl) ?_
  intro p e s m below meth cd args Q hQ X hr hlk htab hM hPr
  obtain ⟨h_cm, h_co, h_out⟩ := hPr
  refine v_aload_n X dL_appeal_0 1 rfl 2 rfl ?_
  refine v_iconst X dL_appeal_1 2 rfl ?_
  refine v_aload_n X dL_appeal_2 3 rfl 0 rfl ?_
  refine v_iload_n X dL_appeal_3 4 rfl 1 rfl ?_
  have hht : HT RL "java/lang/IllegalStateException" s [(0, 9, 12, 25), (0, 9, 15, 15)] 4 1 15 := ⟨(0, 9, 15, 15), rfl, rfl, by decide, by decide, xl_L_15, xc_ISE, by
    intro i z hi hz
    rcases (show i = 0 by omega) with rfl
    · cases hz; exact ⟨by decide, _, xl_L_25, hM.C.2.2.2.2.2.2.1 1 2 _ _ (by decide) rfl rfl⟩⟩
  refine v_txC X htab hM (h_cm.1) (x_X9_appeal_4 l hl E x co hs er fa ss k hO gk hf) kvX9_appeal kiX9_appeal kl_L_37 (q0 := 0) rfl rfl (As := [.int (zI k)]) rfl rfl rfl dL_appeal_4 1 15 hht (k' := 1) (n' := 6) rfl rfl (fun q hq => hq.elim) ⟨h_cm, h_co⟩ (fun q9 H1 lo1 hM hF hpo => ?_)
  replace h_cm := h_cm.kept hF 1 rfl (fun q _ _ h => h.elim)
  replace h_co := h_co.kept hF 28 rfl (fun q _ _ h => h.elim)
  replace h_out := h_out.kept hF 1 rfl (fun q _ _ h => h.elim)
  show V p l e (rmL 11 1 6) s m args below meth cd Q 4 H1 lo1 1 6 15 [(0, .ref x), (1, .int (zI k)), (2, .ref oa)] [.ref q9]
  refine v_astore_n X dL_appeal_15 16 rfl rfl (by decide) (L' := [(3, .ref q9), (0, .ref x), (1, .int (zI k)), (2, .ref oa)]) rfl ?_
  refine v_iconst X dL_appeal_16 17 rfl ?_
  subst hQ; exact m_iret X hr hlk hM dL_appeal_17 rfl rfl
set_option maxHeartbeats 4000000 in
set_option maxRecDepth 20000 in
theorem w_X9_close (l : Launch) (hl : l.stackTraces = false) (E : Nat → Nat → Nat) (x : Nat) (co : Nat → Int → Int) (hs : Int) (er : Int) (fa : Int) (ss : Int) (k : Int) (hc : Nat → Nat → Int → Int) (nx : Int) (sz : Int) (oa : Nat) (lg : Nat → Int64) (hO : OkC co) (gk : Rg k) (hf : flC co 6 k 0 0 = 0) (n0 : 0 ≤ nx) (n1 : nx < 8) (s0 : 0 ≤ sz) (s1 : sz ≤ 8) (hd_cm_co : x + 1 ≤ x + 1 ∨ x + 1 + 28 ≤ x) (hd_cm_hi : x + 1 ≤ x + 85 ∨ x + 85 + 2 ≤ x) (hd_cm_hf : x + 1 ≤ x + 87 ∨ x + 87 + 224 ≤ x) (hd_cm_out : x + 1 ≤ oa ∨ oa + 1 ≤ x) (hd_co_hi : x + 1 + 28 ≤ x + 85 ∨ x + 85 + 2 ≤ x + 1) (hd_co_hf : x + 1 + 28 ≤ x + 87 ∨ x + 87 + 224 ≤ x + 1) (hd_co_out : x + 1 + 28 ≤ oa ∨ oa + 1 ≤ x + 1) (hd_hi_hf : x + 85 + 2 ≤ x + 87 ∨ x + 87 + 224 ≤ x + 85) (hd_hi_out : x + 85 + 2 ≤ oa ∨ oa + 1 ≤ x + 85) (hd_hf_out : x + 87 + 224 ≤ oa ∨ oa + 1 ≤ x + 87) : MuW l yL_close cL_close 4 (some .int) [(0, 9, 12, 25), (0, 9, 15, 15)] 11 1 6 E [(x + 1, 28), (x + 85, 2), (x + 87, 224), (oa, 1)] [.ref x, .int (zI k), .ref oa] (fun H => PR E x [(x, .inr (11, [.ref (x + 1), .ref (x + 29), .ref (x + 57), .ref (x + 85), .ref (x + 311), .ref (x + 314), .ref (x + 319), .ref (x + 332), .int (zI hs), .int (zI er), .int (zI fa), .int (zI ss)]))] H ∧ PR E (x + 1) (courtW E (x + 1) co) H ∧ PR E (x + 85) [(x + 85, .inr (7, [.ref (x + 86), .int (zI nx), .int (zI sz)])), (x + 86, .inl (E 102 3, 8, .inr (.inr (.inr (.inr (hisA (x + 87) 8))))))] H ∧ HF E (x + 87) 8 hc H ∧ PR E oa [(oa, .inl (E 102 4, 1, .inr (.inl lg)))] H) (fun rv H => rv = some (.int (zI 0)) ∧ PR E (x + 1) (courtW E (x + 1) (opC co 6 k 0 0 0)) H ∧ PR E (x + 85) [(x + 85, .inr (7, [.ref (x + 86), .int (zI (if nx < 7 then nx + 1 else 0)), .int (zI (min (sz + 1) 8))])), (x + 86, .inl (E 102 3, 8, .inr (.inr (.inr (.inr (hisA (x + 87) 8))))))] H ∧ HF E (x + 87) 8 (fun j => if j = nx.toNat then co else hc j) H ∧ PR E oa [(oa, .inl (E 102 4, 1, .inr (.inl (fun _ => zL (opV co 6 k 0 0 0)))))] H) := by
  refine MuW.start (own := RL) rfl (by decide +kernel) (Nat.le_of_ble_eq_true rfl) ?_
  intro p e s m below meth cd args Q hQ X hr hlk htab hM hPr
  obtain ⟨h_cm, h_co, h_hi, h_hf, h_out⟩ := hPr
  refine v_aload_n X dL_close_0 1 rfl 2 rfl ?_
  refine v_iconst X dL_close_1 2 rfl ?_
  refine v_aload_n X dL_close_2 3 rfl 0 rfl ?_
  refine v_iload_n X dL_close_3 4 rfl 1 rfl ?_
  refine v_muV X hM (h_cm.1) (c_X9_close l E x co hs er fa ss k hc nx sz hO gk hf n0 n1 s0 s1 hd_cm_co hd_cm_hi hd_cm_hf hd_co_hi hd_co_hf hd_hi_hf) kvX9_close kiX9_close kl_L_40 (q0 := 0) rfl rfl (As := [.int (zI k)]) rfl rfl rfl dL_close_4 7 rfl (k' := 0) (n' := 0) rfl rfl (by intro q hq; simp only [Fr, Fs, or_false, false_or] at hq ⊢; omega) ⟨h_cm, h_co, h_hi, h_hf⟩ (fun rv H1 lo1 hM hF hpo => ?_)
  obtain ⟨rfl, hw_0, hw_1, hw_2⟩ := hpo
  have h_co : PR E (x + 1) (courtW E (x + 1) (opC co 6 k 0 0 0)) H1 := hw_0
  have h_hi : PR E (x + 85) [(x + 85, .inr (7, [.ref (x + 86), .int (zI (if nx < 7 then nx + 1 else 0)), .int (zI (min (sz + 1) 8))])), (x + 86, .inl (E 102 3, 8, .inr (.inr (.inr (.inr (hisA (x + 87) 8))))))] H1 := hw_1
  have h_hf : HF E (x + 87) 8 (fun j => if j = nx.toNat then co else hc j) H1 := hw_2
  replace h_cm := h_cm.kept hF 1 rfl (by intro q q1 q2 q3; simp only [Fs, or_false] at q3; omega)
  replace h_out := h_out.kept hF 1 rfl (by intro q q1 q2 q3; simp only [Fs, or_false] at q3; omega)
  show V p l e (rmL 11 1 6) s m args below meth cd Q 4 H1 lo1 0 0 7 [(0, .ref x), (1, .int (zI k)), (2, .ref oa)] [.int (zI (opV co 6 k 0 0 0)), .int (zI 0), .ref oa]
  have hb_2 := hO.b6 k
  refine v_i2l X dL_close_7 8 rfl ?_
  refine v_last X hM h_out 0 rfl (Or.inl (fsT (fsT (fsT (fsH (by omega) (by omega)))))) dL_close_8 9 rfl (ws' := [(oa, .inl (E 102 4, 1, .inr (.inl (fun _ => zL (opV co 6 k 0 0 0)))))]) rfl (fun H3 lo3 hzz hM hF h_out => ?_)
  clear hzz
  replace h_cm := h_cm.kept hF 1 rfl (fsd (by omega))
  replace h_co := h_co.kept hF 28 rfl (fsd (by omega))
  replace h_hi := h_hi.kept hF 2 rfl (fsd (by omega))
  replace h_hf := h_hf.kept hF (fsd (by omega))
  refine v_goto X dL_close_9 18 (by decide) ?_
  refine v_iconst X dL_close_18 19 rfl ?_
  subst hQ; exact m_iret X hr hlk hM dL_close_19 rfl ⟨rfl, h_co, h_hi, h_hf, h_out⟩
set_option maxHeartbeats 4000000 in
set_option maxRecDepth 20000 in
theorem w_X9_close_1_t (l : Launch) (hl : l.stackTraces = false) (E : Nat → Nat → Nat) (x : Nat) (co : Nat → Int → Int) (hs : Int) (er : Int) (fa : Int) (ss : Int) (k : Int) (oa : Nat) (lg : Nat → Int64) (hO : OkC co) (gk : Rg k) (hf : flC co 6 k 0 0 = 1) : MuW l yL_close cL_close 4 (some .int) [(0, 9, 12, 25), (0, 9, 15, 15)] 11 1 6 E [] [.ref x, .int (zI k), .ref oa] (fun H => PR E x [(x, .inr (11, [.ref (x + 1), .ref (x + 29), .ref (x + 57), .ref (x + 85), .ref (x + 311), .ref (x + 314), .ref (x + 319), .ref (x + 332), .int (zI hs), .int (zI er), .int (zI fa), .int (zI ss)]))] H ∧ PR E (x + 1) (courtW E (x + 1) co) H ∧ PR E oa [(oa, .inl (E 102 4, 1, .inr (.inl lg)))] H) (fun rv H => rv = some (.int (zI 1))) := by
  refine MuW.start (own := RL) rfl (by decide +kernel) (Nat.le_of_ble_eq_true rfl) ?_
  intro p e s m below meth cd args Q hQ X hr hlk htab hM hPr
  obtain ⟨h_cm, h_co, h_out⟩ := hPr
  refine v_aload_n X dL_close_0 1 rfl 2 rfl ?_
  refine v_iconst X dL_close_1 2 rfl ?_
  refine v_aload_n X dL_close_2 3 rfl 0 rfl ?_
  refine v_iload_n X dL_close_3 4 rfl 1 rfl ?_
  have hht : HT RL "java/lang/IndexOutOfBoundsException" s [(0, 9, 12, 25), (0, 9, 15, 15)] 4 0 12 := ⟨(0, 9, 12, 25), rfl, rfl, by decide, by decide, xl_L_25, xc_IOB, by
    intro i z hi hz
    omega⟩
  refine v_txC X htab hM (h_cm.1) (x_X9_close_1 l hl E x co hs er fa ss k hO gk hf) kvX9_close kiX9_close kl_L_40 (q0 := 0) rfl rfl (As := [.int (zI k)]) rfl rfl rfl dL_close_4 0 12 hht (k' := 1) (n' := 6) rfl rfl (fun q hq => hq.elim) ⟨h_cm, h_co⟩ (fun q9 H1 lo1 hM hF hpo => ?_)
  replace h_cm := h_cm.kept hF 1 rfl (fun q _ _ h => h.elim)
  replace h_co := h_co.kept hF 28 rfl (fun q _ _ h => h.elim)
  replace h_out := h_out.kept hF 1 rfl (fun q _ _ h => h.elim)
  show V p l e (rmL 11 1 6) s m args below meth cd Q 4 H1 lo1 1 6 12 [(0, .ref x), (1, .int (zI k)), (2, .ref oa)] [.ref q9]
  refine v_astore_n X dL_close_12 13 rfl rfl (by decide) (L' := [(3, .ref q9), (0, .ref x), (1, .int (zI k)), (2, .ref oa)]) rfl ?_
  refine v_iconst X dL_close_13 14 rfl ?_
  subst hQ; exact m_iret X hr hlk hM dL_close_14 rfl rfl
set_option maxHeartbeats 4000000 in
set_option maxRecDepth 20000 in
theorem w_X9_close_4_t (l : Launch) (hl : l.stackTraces = false) (E : Nat → Nat → Nat) (x : Nat) (co : Nat → Int → Int) (hs : Int) (er : Int) (fa : Int) (ss : Int) (k : Int) (oa : Nat) (lg : Nat → Int64) (hO : OkC co) (gk : Rg k) (hf : flC co 6 k 0 0 = 4) : MuW l yL_close cL_close 4 (some .int) [(0, 9, 12, 25), (0, 9, 15, 15)] 11 1 6 E [] [.ref x, .int (zI k), .ref oa] (fun H => PR E x [(x, .inr (11, [.ref (x + 1), .ref (x + 29), .ref (x + 57), .ref (x + 85), .ref (x + 311), .ref (x + 314), .ref (x + 319), .ref (x + 332), .int (zI hs), .int (zI er), .int (zI fa), .int (zI ss)]))] H ∧ PR E (x + 1) (courtW E (x + 1) co) H ∧ PR E oa [(oa, .inl (E 102 4, 1, .inr (.inl lg)))] H) (fun rv H => rv = some (.int (zI 2))) := by
  refine MuW.start (own := RL) rfl (by decide +kernel) (Nat.le_of_ble_eq_true rfl) ?_
  intro p e s m below meth cd args Q hQ X hr hlk htab hM hPr
  obtain ⟨h_cm, h_co, h_out⟩ := hPr
  refine v_aload_n X dL_close_0 1 rfl 2 rfl ?_
  refine v_iconst X dL_close_1 2 rfl ?_
  refine v_aload_n X dL_close_2 3 rfl 0 rfl ?_
  refine v_iload_n X dL_close_3 4 rfl 1 rfl ?_
  have hht : HT RL "java/lang/IllegalStateException" s [(0, 9, 12, 25), (0, 9, 15, 15)] 4 1 15 := ⟨(0, 9, 15, 15), rfl, rfl, by decide, by decide, xl_L_15, xc_ISE, by
    intro i z hi hz
    rcases (show i = 0 by omega) with rfl
    · cases hz; exact ⟨by decide, _, xl_L_25, hM.C.2.2.2.2.2.2.1 1 2 _ _ (by decide) rfl rfl⟩⟩
  refine v_txC X htab hM (h_cm.1) (x_X9_close_4 l hl E x co hs er fa ss k hO gk hf) kvX9_close kiX9_close kl_L_40 (q0 := 0) rfl rfl (As := [.int (zI k)]) rfl rfl rfl dL_close_4 1 15 hht (k' := 1) (n' := 6) rfl rfl (fun q hq => hq.elim) ⟨h_cm, h_co⟩ (fun q9 H1 lo1 hM hF hpo => ?_)
  replace h_cm := h_cm.kept hF 1 rfl (fun q _ _ h => h.elim)
  replace h_co := h_co.kept hF 28 rfl (fun q _ _ h => h.elim)
  replace h_out := h_out.kept hF 1 rfl (fun q _ _ h => h.elim)
  show V p l e (rmL 11 1 6) s m args below meth cd Q 4 H1 lo1 1 6 15 [(0, .ref x), (1, .int (zI k)), (2, .ref oa)] [.ref q9]
  refine v_astore_n X dL_close_15 16 rfl rfl (by decide) (L' := [(3, .ref q9), (0, .ref x), (1, .int (zI k)), (2, .ref oa)]) rfl ?_
  refine v_iconst X dL_close_16 17 rfl ?_
  subst hQ; exact m_iret X hr hlk hM dL_close_17 rfl rfl
set_option maxHeartbeats 4000000 in
set_option maxRecDepth 20000 in
theorem w_X9_docketAt (l : Launch) (hl : l.stackTraces = false) (E : Nat → Nat → Nat) (x : Nat) (co : Nat → Int → Int) (hs : Int) (er : Int) (fa : Int) (ss : Int) (q : Int) (dk : Nat → Int → Int) (oa : Nat) (lg : Nat → Int64) (hO : OkC co) (gq : Rg q) (k0 : 0 ≤ q ∧ q < (dkM co (co 0 0).toNat : Int)) (hd_cm_dk : x + 1 ≤ x + 311 ∨ x + 311 + 3 ≤ x) (hd_cm_out : x + 1 ≤ oa ∨ oa + 1 ≤ x) (hd_co_dk : x + 1 + 28 ≤ x + 311 ∨ x + 311 + 3 ≤ x + 1) (hd_co_out : x + 1 + 28 ≤ oa ∨ oa + 1 ≤ x + 1) (hd_dk_out : x + 311 + 3 ≤ oa ∨ oa + 1 ≤ x + 311) : MuW l yL_docketAt cL_docketAt 4 (some .int) [(0, 9, 12, 31)] 5 1 6 E [(x + 311, 3), (oa, 1)] [.ref x, .int (zI q), .ref oa] (fun H => PR E x [(x, .inr (11, [.ref (x + 1), .ref (x + 29), .ref (x + 57), .ref (x + 85), .ref (x + 311), .ref (x + 314), .ref (x + 319), .ref (x + 332), .int (zI hs), .int (zI er), .int (zI fa), .int (zI ss)]))] H ∧ PR E (x + 1) (courtW E (x + 1) co) H ∧ PR E (x + 311) (docketW E (x + 311) dk) H ∧ PR E oa [(oa, .inl (E 102 4, 1, .inr (.inl lg)))] H) (fun rv H => rv = some (.int (zI 0)) ∧ PR E (x + 311) (docketW E (x + 311) (updC (updC dk 0 (updZ (dk 0) 1 (dkM co (co 0 0).toNat : Int))) 1 (dkG co (dk 1) (co 0 0).toNat))) H ∧ PR E oa [(oa, .inl (E 102 4, 1, .inr (.inl (fun _ => zL (dkG co (dk 1) (co 0 0).toNat q)))))] H) := by
  refine MuW.start (own := RL) rfl (by decide +kernel) (Nat.le_of_ble_eq_true rfl) ?_
  intro p e s m below meth cd args Q hQ X hr hlk htab hM hPr
  obtain ⟨h_cm, h_co, h_dk, h_out⟩ := hPr
  refine v_aload_n X dL_docketAt_0 1 rfl 2 rfl ?_
  refine v_iconst X dL_docketAt_1 2 rfl ?_
  refine v_aload_n X dL_docketAt_2 3 rfl 0 rfl ?_
  refine v_iload_n X dL_docketAt_3 4 rfl 1 rfl ?_
  refine v_muV X hM (h_cm.1) (c_X9_docketAt l E x co hs er fa ss q dk hO gq k0 hd_cm_dk hd_co_dk) kvX9_docketAt kiX9_docketAt kl_L_135 (q0 := 0) rfl rfl (As := [.int (zI q)]) rfl rfl rfl dL_docketAt_4 7 rfl (k' := 0) (n' := 0) rfl rfl (fsI (fun q q1 q2 => (Or.inl (fsH (by omega) (by omega))))) ⟨h_cm, h_co, h_dk⟩ (fun rv H1 lo1 hM hF hpo => ?_)
  obtain ⟨rfl, hw_0⟩ := hpo
  have h_dk : PR E (x + 311) (docketW E (x + 311) (updC (updC dk 0 (updZ (dk 0) 1 (dkM co (co 0 0).toNat : Int))) 1 (dkG co ((dk 1)) (co 0 0).toNat))) H1 := hw_0
  replace h_cm := h_cm.kept hF 1 rfl (fsd (by omega))
  replace h_co := h_co.kept hF 28 rfl (fsd (by omega))
  replace h_out := h_out.kept hF 1 rfl (fsd (by omega))
  show V p l e (rmL 5 1 6) s m args below meth cd Q 4 H1 lo1 0 0 7 [(0, .ref x), (1, .int (zI q)), (2, .ref oa)] [.int (zI (dkG co ((dk 1)) (co 0 0).toNat q)), .int (zI 0), .ref oa]
  have hb_2 := hO.b0
  refine v_i2l X dL_docketAt_7 8 rfl ?_
  refine v_last X hM h_out 0 rfl (Or.inl (fsT (fsH (by omega) (by omega)))) dL_docketAt_8 9 rfl (ws' := [(oa, .inl (E 102 4, 1, .inr (.inl (fun _ => zL (dkG co ((dk 1)) (co 0 0).toNat q)))))]) rfl (fun H3 lo3 hzz hM hF h_out => ?_)
  clear hzz
  replace h_cm := h_cm.kept hF 1 rfl (fsd (by omega))
  replace h_co := h_co.kept hF 28 rfl (fsd (by omega))
  replace h_dk := h_dk.kept hF 3 rfl (fsd (by omega))
  refine v_goto X dL_docketAt_9 15 (by decide) ?_
  refine v_iconst X dL_docketAt_15 16 rfl ?_
  subst hQ; exact m_iret X hr hlk hM dL_docketAt_16 rfl ⟨rfl, h_dk, h_out⟩
set_option maxHeartbeats 4000000 in
set_option maxRecDepth 20000 in
theorem w_X9_docketAt_0_t (l : Launch) (hl : l.stackTraces = false) (E : Nat → Nat → Nat) (x : Nat) (co : Nat → Int → Int) (hs : Int) (er : Int) (fa : Int) (ss : Int) (q : Int) (dk : Nat → Int → Int) (oa : Nat) (lg : Nat → Int64) (hO : OkC co) (gq : Rg q) (nk : ¬ (0 ≤ q ∧ q < (dkM co (co 0 0).toNat : Int))) (hd_cm_dk : x + 1 ≤ x + 311 ∨ x + 311 + 3 ≤ x) (hd_co_dk : x + 1 + 28 ≤ x + 311 ∨ x + 311 + 3 ≤ x + 1) (hd_dk_out : x + 311 + 3 ≤ oa ∨ oa + 1 ≤ x + 311) : MuW l yL_docketAt cL_docketAt 4 (some .int) [(0, 9, 12, 31)] 7 1 6 E [(x + 311, 3)] [.ref x, .int (zI q), .ref oa] (fun H => PR E x [(x, .inr (11, [.ref (x + 1), .ref (x + 29), .ref (x + 57), .ref (x + 85), .ref (x + 311), .ref (x + 314), .ref (x + 319), .ref (x + 332), .int (zI hs), .int (zI er), .int (zI fa), .int (zI ss)]))] H ∧ PR E (x + 1) (courtW E (x + 1) co) H ∧ PR E (x + 311) (docketW E (x + 311) dk) H ∧ PR E oa [(oa, .inl (E 102 4, 1, .inr (.inl lg)))] H) (fun rv H => rv = some (.int (zI 1)) ∧ PR E (x + 311) (docketW E (x + 311) (updC (updC dk 0 (updZ (dk 0) 1 (dkM co (co 0 0).toNat : Int))) 1 (dkG co (dk 1) (co 0 0).toNat))) H) := by
  refine MuW.start (own := RL) rfl (by decide +kernel) (Nat.le_of_ble_eq_true rfl) ?_
  intro p e s m below meth cd args Q hQ X hr hlk htab hM hPr
  obtain ⟨h_cm, h_co, h_dk, h_out⟩ := hPr
  refine v_aload_n X dL_docketAt_0 1 rfl 2 rfl ?_
  refine v_iconst X dL_docketAt_1 2 rfl ?_
  refine v_aload_n X dL_docketAt_2 3 rfl 0 rfl ?_
  refine v_iload_n X dL_docketAt_3 4 rfl 1 rfl ?_
  have hht : HT RL "java/util/NoSuchElementException" s [(0, 9, 12, 31)] 4 0 12 := ⟨(0, 9, 12, 31), rfl, rfl, by decide, by decide, xl_L_31, xc_NSE, by
    intro i z hi hz
    omega⟩
  refine v_txC X htab hM (h_cm.1) (x_X9_docketAt_0 l hl E x co hs er fa ss q dk hO gq nk hd_cm_dk hd_co_dk) kvX9_docketAt kiX9_docketAt kl_L_135 (q0 := 0) rfl rfl (As := [.int (zI q)]) rfl rfl rfl dL_docketAt_4 0 12 hht (k' := 1) (n' := 6) rfl rfl (fsI (fun q q1 q2 => (Or.inl (fsH (by omega) (by omega))))) ⟨h_cm, h_co, h_dk⟩ (fun q9 H1 lo1 hM hF hpo => ?_)
  have hw_0 := hpo
  have h_dk : PR E (x + 311) (docketW E (x + 311) (updC (updC dk 0 (updZ (dk 0) 1 (dkM co (co 0 0).toNat : Int))) 1 (dkG co ((dk 1)) (co 0 0).toNat))) H1 := hw_0
  replace h_cm := h_cm.kept hF 1 rfl (fsd (by omega))
  replace h_co := h_co.kept hF 28 rfl (fsd (by omega))
  replace h_out := h_out.kept hF 1 rfl (fsd (by omega))
  show V p l e (rmL 7 1 6) s m args below meth cd Q 4 H1 lo1 1 6 12 [(0, .ref x), (1, .int (zI q)), (2, .ref oa)] [.ref q9]
  refine v_astore_n X dL_docketAt_12 13 rfl rfl (by decide) (L' := [(3, .ref q9), (0, .ref x), (1, .int (zI q)), (2, .ref oa)]) rfl ?_
  refine v_iconst X dL_docketAt_13 14 rfl ?_
  subst hQ; exact m_iret X hr hlk hM dL_docketAt_14 rfl ⟨rfl, h_dk⟩
set_option maxHeartbeats 4000000 in
set_option maxRecDepth 20000 in
theorem w_X9_nextToDecide (l : Launch) (hl : l.stackTraces = false) (E : Nat → Nat → Nat) (x : Nat) (co : Nat → Int → Int) (hs : Int) (er : Int) (fa : Int) (ss : Int) (dk : Nat → Int → Int) (oa : Nat) (lg : Nat → Int64) (hO : OkC co) (k0 : 0 ≤ fhC co (dkG co (dk 1) (co 0 0).toNat) (dkM co (co 0 0).toNat)) (hd_cm_dk : x + 1 ≤ x + 311 ∨ x + 311 + 3 ≤ x) (hd_cm_out : x + 1 ≤ oa ∨ oa + 1 ≤ x) (hd_co_dk : x + 1 + 28 ≤ x + 311 ∨ x + 311 + 3 ≤ x + 1) (hd_co_out : x + 1 + 28 ≤ oa ∨ oa + 1 ≤ x + 1) (hd_dk_out : x + 311 + 3 ≤ oa ∨ oa + 1 ≤ x + 311) : MuW l yL_nextToDecide cL_nextToDecide 3 (some .int) [(0, 8, 11, 31)] 5 1 6 E [(x + 311, 3), (oa, 1)] [.ref x, .ref oa] (fun H => PR E x [(x, .inr (11, [.ref (x + 1), .ref (x + 29), .ref (x + 57), .ref (x + 85), .ref (x + 311), .ref (x + 314), .ref (x + 319), .ref (x + 332), .int (zI hs), .int (zI er), .int (zI fa), .int (zI ss)]))] H ∧ PR E (x + 1) (courtW E (x + 1) co) H ∧ PR E (x + 311) (docketW E (x + 311) dk) H ∧ PR E oa [(oa, .inl (E 102 4, 1, .inr (.inl lg)))] H) (fun rv H => rv = some (.int (zI 0)) ∧ PR E (x + 311) (docketW E (x + 311) (updC (updC dk 0 (updZ (dk 0) 1 (dkM co (co 0 0).toNat : Int))) 1 (dkG co (dk 1) (co 0 0).toNat))) H ∧ PR E oa [(oa, .inl (E 102 4, 1, .inr (.inl (fun _ => zL (fhC co (dkG co (dk 1) (co 0 0).toNat) (dkM co (co 0 0).toNat))))))] H) := by
  refine MuW.start (own := RL) rfl (by decide +kernel) (Nat.le_of_ble_eq_true rfl) ?_
  intro p e s m below meth cd args Q hQ X hr hlk htab hM hPr
  obtain ⟨h_cm, h_co, h_dk, h_out⟩ := hPr
  refine v_aload_n X dL_nextToDecide_0 1 rfl 1 rfl ?_
  refine v_iconst X dL_nextToDecide_1 2 rfl ?_
  refine v_aload_n X dL_nextToDecide_2 3 rfl 0 rfl ?_
  have hb_1 := hO.b0
  refine v_muV X hM (h_cm.1) (c_X9_nextToDecide l E x co hs er fa ss dk hO (by omega) hd_cm_dk hd_co_dk) kvX9_nextToDecide kiX9_nextToDecide kl_L_110 (q0 := 0) rfl rfl (As := []) rfl rfl rfl dL_nextToDecide_3 6 rfl (k' := 0) (n' := 0) rfl rfl (fsI (fun q q1 q2 => (Or.inl (fsH (by omega) (by omega))))) ⟨h_cm, h_co, h_dk⟩ (fun rv H2 lo2 hM hF hpo => ?_)
  obtain ⟨rfl, hw_0⟩ := hpo
  have h_dk : PR E (x + 311) (docketW E (x + 311) (updC (updC dk 0 (updZ (dk 0) 1 (dkM co (co 0 0).toNat : Int))) 1 (dkG co ((dk 1)) (co 0 0).toNat))) H2 := hw_0
  replace h_cm := h_cm.kept hF 1 rfl (fsd (by omega))
  replace h_co := h_co.kept hF 28 rfl (fsd (by omega))
  replace h_out := h_out.kept hF 1 rfl (fsd (by omega))
  show V p l e (rmL 5 1 6) s m args below meth cd Q 3 H2 lo2 0 0 6 [(0, .ref x), (1, .ref oa)] [.int (zI (fhC co (dkG co ((dk 1)) (co 0 0).toNat) (dkM co (co 0 0).toNat))), .int (zI 0), .ref oa]
  refine v_i2l X dL_nextToDecide_6 7 rfl ?_
  refine v_last X hM h_out 0 rfl (Or.inl (fsT (fsH (by omega) (by omega)))) dL_nextToDecide_7 8 rfl (ws' := [(oa, .inl (E 102 4, 1, .inr (.inl (fun _ => zL (fhC co (dkG co ((dk 1)) (co 0 0).toNat) (dkM co (co 0 0).toNat))))))]) rfl (fun H3 lo3 hzz hM hF h_out => ?_)
  clear hzz
  replace h_cm := h_cm.kept hF 1 rfl (fsd (by omega))
  replace h_co := h_co.kept hF 28 rfl (fsd (by omega))
  replace h_dk := h_dk.kept hF 3 rfl (fsd (by omega))
  refine v_goto X dL_nextToDecide_8 14 (by decide) ?_
  refine v_iconst X dL_nextToDecide_14 15 rfl ?_
  subst hQ; exact m_iret X hr hlk hM dL_nextToDecide_15 rfl ⟨rfl, h_dk, h_out⟩
set_option maxHeartbeats 4000000 in
set_option maxRecDepth 20000 in
theorem w_X9_nextToDecide_0_t (l : Launch) (hl : l.stackTraces = false) (E : Nat → Nat → Nat) (x : Nat) (co : Nat → Int → Int) (hs : Int) (er : Int) (fa : Int) (ss : Int) (dk : Nat → Int → Int) (oa : Nat) (lg : Nat → Int64) (hO : OkC co) (nk : ¬ (0 ≤ fhC co (dkG co (dk 1) (co 0 0).toNat) (dkM co (co 0 0).toNat))) (hd_cm_dk : x + 1 ≤ x + 311 ∨ x + 311 + 3 ≤ x) (hd_co_dk : x + 1 + 28 ≤ x + 311 ∨ x + 311 + 3 ≤ x + 1) (hd_dk_out : x + 311 + 3 ≤ oa ∨ oa + 1 ≤ x + 311) : MuW l yL_nextToDecide cL_nextToDecide 3 (some .int) [(0, 8, 11, 31)] 7 1 6 E [(x + 311, 3)] [.ref x, .ref oa] (fun H => PR E x [(x, .inr (11, [.ref (x + 1), .ref (x + 29), .ref (x + 57), .ref (x + 85), .ref (x + 311), .ref (x + 314), .ref (x + 319), .ref (x + 332), .int (zI hs), .int (zI er), .int (zI fa), .int (zI ss)]))] H ∧ PR E (x + 1) (courtW E (x + 1) co) H ∧ PR E (x + 311) (docketW E (x + 311) dk) H ∧ PR E oa [(oa, .inl (E 102 4, 1, .inr (.inl lg)))] H) (fun rv H => rv = some (.int (zI 1)) ∧ PR E (x + 311) (docketW E (x + 311) (updC (updC dk 0 (updZ (dk 0) 1 (dkM co (co 0 0).toNat : Int))) 1 (dkG co (dk 1) (co 0 0).toNat))) H) := by
  refine MuW.start (own := RL) rfl (by decide +kernel) (Nat.le_of_ble_eq_true rfl) ?_
  intro p e s m below meth cd args Q hQ X hr hlk htab hM hPr
  obtain ⟨h_cm, h_co, h_dk, h_out⟩ := hPr
  refine v_aload_n X dL_nextToDecide_0 1 rfl 1 rfl ?_
  refine v_iconst X dL_nextToDecide_1 2 rfl ?_
  refine v_aload_n X dL_nextToDecide_2 3 rfl 0 rfl ?_
  have hb_1 := hO.b0
  have hht : HT RL "java/util/NoSuchElementException" s [(0, 8, 11, 31)] 3 0 11 := ⟨(0, 8, 11, 31), rfl, rfl, by decide, by decide, xl_L_31, xc_NSE, by
    intro i z hi hz
    omega⟩
  refine v_txC X htab hM (h_cm.1) (x_X9_nextToDecide_0 l hl E x co hs er fa ss dk hO (by omega) hd_cm_dk hd_co_dk) kvX9_nextToDecide kiX9_nextToDecide kl_L_110 (q0 := 0) rfl rfl (As := []) rfl rfl rfl dL_nextToDecide_3 0 11 hht (k' := 1) (n' := 6) rfl rfl (fsI (fun q q1 q2 => (Or.inl (fsH (by omega) (by omega))))) ⟨h_cm, h_co, h_dk⟩ (fun q9 H2 lo2 hM hF hpo => ?_)
  have hw_0 := hpo
  have h_dk : PR E (x + 311) (docketW E (x + 311) (updC (updC dk 0 (updZ (dk 0) 1 (dkM co (co 0 0).toNat : Int))) 1 (dkG co ((dk 1)) (co 0 0).toNat))) H2 := hw_0
  replace h_cm := h_cm.kept hF 1 rfl (fsd (by omega))
  replace h_co := h_co.kept hF 28 rfl (fsd (by omega))
  replace h_out := h_out.kept hF 1 rfl (fsd (by omega))
  show V p l e (rmL 7 1 6) s m args below meth cd Q 3 H2 lo2 1 6 11 [(0, .ref x), (1, .ref oa)] [.ref q9]
  refine v_astore_n X dL_nextToDecide_11 12 rfl rfl (by decide) (L' := [(2, .ref q9), (0, .ref x), (1, .ref oa)]) rfl ?_
  refine v_iconst X dL_nextToDecide_12 13 rfl ?_
  subst hQ; exact m_iret X hr hlk hM dL_nextToDecide_13 rfl ⟨rfl, h_dk⟩
set_option maxHeartbeats 4000000 in
set_option maxRecDepth 20000 in
theorem w_X9_areConnectedBySearch (l : Launch) (hl : l.stackTraces = false) (E : Nat → Nat → Nat) (x : Nat) (co : Nat → Int → Int) (hs : Int) (er : Int) (fa : Int) (ss : Int) (w : Int) (y : Int) (se : Nat → Int → Int) (oa : Nat) (lg : Nat → Int64) (hO : OkC co) (gw : Rg w) (gy : Rg y) (k0 : 0 ≤ w ∧ w < co 0 1) (k1 : 0 ≤ y ∧ y < co 0 1) (hcn : ∀ (se : Nat → Int → Int) (h : Nat), h ≤ 8 → (8 ≤ h ∨ stC co se w h 0 2 ≤ (h : Int)) → (∀ j : Nat, j < h → (j : Int) < stC co se w j 0 2) → (¬ stC co se w h 2 y = 0 ↔ rtF (co 13) 8 w = rtF (co 13) 8 y)) (hd_cm_se : x + 1 ≤ x + 314 ∨ x + 314 + 5 ≤ x) (hd_cm_out : x + 1 ≤ oa ∨ oa + 1 ≤ x) (hd_co_se : x + 1 + 28 ≤ x + 314 ∨ x + 314 + 5 ≤ x + 1) (hd_co_out : x + 1 + 28 ≤ oa ∨ oa + 1 ≤ x + 1) (hd_se_out : x + 314 + 5 ≤ oa ∨ oa + 1 ≤ x + 314) : MuW l yL_areConnectedBySearch cL_areConnectedBySearch 5 (some .int) [(0, 17, 20, 25)] 6 1 6 E [(x + 314, 5), (oa, 1)] [.ref x, .int (zI w), .int (zI y), .ref oa] (fun H => PR E x [(x, .inr (11, [.ref (x + 1), .ref (x + 29), .ref (x + 57), .ref (x + 85), .ref (x + 311), .ref (x + 314), .ref (x + 319), .ref (x + 332), .int (zI hs), .int (zI er), .int (zI fa), .int (zI ss)]))] H ∧ PR E (x + 1) (courtW E (x + 1) co) H ∧ PR E (x + 314) (searchW E (x + 314) se) H ∧ PR E oa [(oa, .inl (E 102 4, 1, .inr (.inl lg)))] H) (fun rv H => ∃ h : Nat, rv = some (.int (zI 0)) ∧ PR E (x + 314) (searchW E (x + 314) (stC co se w h)) H ∧ PR E oa [(oa, .inl (E 102 4, 1, .inr (.inl (fun _ => zL (bz (rtF (co 13) 8 w = rtF (co 13) 8 y))))))] H) := by
  refine MuW.start (own := RL) rfl (by decide +kernel) (Nat.le_of_ble_eq_true rfl) ?_
  intro p e s m below meth cd args Q hQ X hr hlk htab hM hPr
  obtain ⟨h_cm, h_co, h_se, h_out⟩ := hPr
  refine v_aload_n X dL_areConnectedBySearch_0 1 rfl 3 rfl ?_
  refine v_iconst X dL_areConnectedBySearch_1 2 rfl ?_
  refine v_aload_n X dL_areConnectedBySearch_2 3 rfl 0 rfl ?_
  refine v_iload_n X dL_areConnectedBySearch_3 4 rfl 1 rfl ?_
  refine v_iload_n X dL_areConnectedBySearch_4 5 rfl 2 rfl ?_
  refine v_muV X hM (h_cm.1) (c_X9_areConnectedBySearch l E x co hs er fa ss w y se hO gw gy k0 k1 (by omega) hd_cm_se hd_co_se) kvX9_areConnectedBySearch kiX9_areConnectedBySearch kl_L_101 (q0 := 0) rfl rfl (As := [.int (zI w), .int (zI y)]) rfl rfl rfl dL_areConnectedBySearch_5 8 rfl (k' := 0) (n' := 0) rfl rfl (fsI (fun q q1 q2 => (Or.inl (fsH (by omega) (by omega))))) ⟨h_cm, h_co, h_se⟩ (fun rv H1 lo1 hM hF hpo => ?_)
  obtain ⟨h_2, rfl, hw_0⟩ := hpo
  have h_se : PR E (x + 314) (searchW E (x + 314) (stC co se w h_2)) H1 := hw_0
  replace h_cm := h_cm.kept hF 1 rfl (fsd (by omega))
  replace h_co := h_co.kept hF 28 rfl (fsd (by omega))
  replace h_out := h_out.kept hF 1 rfl (fsd (by omega))
  show V p l e (rmL 6 1 6) s m args below meth cd Q 5 H1 lo1 0 0 8 [(0, .ref x), (1, .int (zI w)), (2, .int (zI y)), (3, .ref oa)] [.int (zI (bz (rtF ((co 13)) 8 w = rtF ((co 13)) 8 y))), .int (zI 0), .ref oa]
  refine v_bif_eq X dL_areConnectedBySearch_8 11 15 rfl (by decide) (fun c_3 => ?_) (fun c_3 => ?_)
  · skip
    refine v_lconst 0 X dL_areConnectedBySearch_15 rfl 16 rfl ?_
    refine v_last X hM h_out 0 rfl (Or.inl (fsT (fsH (by omega) (by omega)))) dL_areConnectedBySearch_16 17 rfl (ws' := [(oa, .inl (E 102 4, 1, .inr (.inl (fun _ => zL 0))))]) rfl (fun H4 lo4 hzz hM hF h_out => ?_)
    clear hzz
    replace h_cm := h_cm.kept hF 1 rfl (fsd (by omega))
    replace h_co := h_co.kept hF 28 rfl (fsd (by omega))
    replace h_se := h_se.kept hF 5 rfl (fsd (by omega))
    refine v_goto X dL_areConnectedBySearch_17 24 (by decide) ?_
    refine v_iconst X dL_areConnectedBySearch_24 25 rfl ?_
    subst hQ; exact m_iret X hr hlk hM dL_areConnectedBySearch_25 rfl ⟨_, rfl, h_se, (PR.to h_out (by first | rw [bz_t (φ := rtF (co 13) 8 w = rtF (co 13) 8 y) (by assumption)] | rw [bz_f (φ := rtF (co 13) 8 w = rtF (co 13) 8 y) (by assumption)]))⟩
  · skip
    refine v_lconst 1 X dL_areConnectedBySearch_11 rfl 12 rfl ?_
    refine v_goto X dL_areConnectedBySearch_12 16 (by decide) ?_
    refine v_last X hM h_out 0 rfl (Or.inl (fsT (fsH (by omega) (by omega)))) dL_areConnectedBySearch_16 17 rfl (ws' := [(oa, .inl (E 102 4, 1, .inr (.inl (fun _ => zL 1))))]) rfl (fun H5 lo5 hzz hM hF h_out => ?_)
    clear hzz
    replace h_cm := h_cm.kept hF 1 rfl (fsd (by omega))
    replace h_co := h_co.kept hF 28 rfl (fsd (by omega))
    replace h_se := h_se.kept hF 5 rfl (fsd (by omega))
    refine v_goto X dL_areConnectedBySearch_17 24 (by decide) ?_
    refine v_iconst X dL_areConnectedBySearch_24 25 rfl ?_
    subst hQ; exact m_iret X hr hlk hM dL_areConnectedBySearch_25 rfl ⟨_, rfl, h_se, (PR.to h_out (by first | rw [bz_t (φ := rtF (co 13) 8 w = rtF (co 13) 8 y) (by assumption)] | rw [bz_f (φ := rtF (co 13) 8 w = rtF (co 13) 8 y) (by assumption)]))⟩
set_option maxHeartbeats 4000000 in
set_option maxRecDepth 20000 in
theorem w_X9_areConnectedBySearch_0_t (l : Launch) (hl : l.stackTraces = false) (E : Nat → Nat → Nat) (x : Nat) (co : Nat → Int → Int) (hs : Int) (er : Int) (fa : Int) (ss : Int) (w : Int) (y : Int) (oa : Nat) (lg : Nat → Int64) (hO : OkC co) (gw : Rg w) (gy : Rg y) (nk : ¬ (0 ≤ w ∧ w < co 0 1)) : MuW l yL_areConnectedBySearch cL_areConnectedBySearch 5 (some .int) [(0, 17, 20, 25)] 8 1 6 E [] [.ref x, .int (zI w), .int (zI y), .ref oa] (fun H => PR E x [(x, .inr (11, [.ref (x + 1), .ref (x + 29), .ref (x + 57), .ref (x + 85), .ref (x + 311), .ref (x + 314), .ref (x + 319), .ref (x + 332), .int (zI hs), .int (zI er), .int (zI fa), .int (zI ss)]))] H ∧ PR E (x + 1) (courtW E (x + 1) co) H ∧ PR E oa [(oa, .inl (E 102 4, 1, .inr (.inl lg)))] H) (fun rv H => rv = some (.int (zI 1))) := by
  refine MuW.start (own := RL) rfl (by decide +kernel) (Nat.le_of_ble_eq_true rfl) ?_
  intro p e s m below meth cd args Q hQ X hr hlk htab hM hPr
  obtain ⟨h_cm, h_co, h_out⟩ := hPr
  refine v_aload_n X dL_areConnectedBySearch_0 1 rfl 3 rfl ?_
  refine v_iconst X dL_areConnectedBySearch_1 2 rfl ?_
  refine v_aload_n X dL_areConnectedBySearch_2 3 rfl 0 rfl ?_
  refine v_iload_n X dL_areConnectedBySearch_3 4 rfl 1 rfl ?_
  refine v_iload_n X dL_areConnectedBySearch_4 5 rfl 2 rfl ?_
  have hht : HT RL "java/lang/IndexOutOfBoundsException" s [(0, 17, 20, 25)] 5 0 20 := ⟨(0, 17, 20, 25), rfl, rfl, by decide, by decide, xl_L_25, xc_IOB, by
    intro i z hi hz
    omega⟩
  refine v_txC X htab hM (h_cm.1) (x_X9_areConnectedBySearch_0 l hl E x co hs er fa ss w y hO gw gy nk) kvX9_areConnectedBySearch kiX9_areConnectedBySearch kl_L_101 (q0 := 0) rfl rfl (As := [.int (zI w), .int (zI y)]) rfl rfl rfl dL_areConnectedBySearch_5 0 20 hht (k' := 1) (n' := 6) rfl rfl (fun q hq => hq.elim) ⟨h_cm, h_co⟩ (fun q9 H1 lo1 hM hF hpo => ?_)
  replace h_cm := h_cm.kept hF 1 rfl (fun q _ _ h => h.elim)
  replace h_co := h_co.kept hF 28 rfl (fun q _ _ h => h.elim)
  replace h_out := h_out.kept hF 1 rfl (fun q _ _ h => h.elim)
  show V p l e (rmL 8 1 6) s m args below meth cd Q 5 H1 lo1 1 6 20 [(0, .ref x), (1, .int (zI w)), (2, .int (zI y)), (3, .ref oa)] [.ref q9]
  refine v_astore X dL_areConnectedBySearch_20 22 rfl (by decide) (L' := [(4, .ref q9), (0, .ref x), (1, .int (zI w)), (2, .int (zI y)), (3, .ref oa)]) rfl ?_
  refine v_iconst X dL_areConnectedBySearch_22 23 rfl ?_
  subst hQ; exact m_iret X hr hlk hM dL_areConnectedBySearch_23 rfl rfl
set_option maxHeartbeats 4000000 in
set_option maxRecDepth 20000 in
theorem w_X9_areConnectedBySearch_1_t (l : Launch) (hl : l.stackTraces = false) (E : Nat → Nat → Nat) (x : Nat) (co : Nat → Int → Int) (hs : Int) (er : Int) (fa : Int) (ss : Int) (w : Int) (y : Int) (oa : Nat) (lg : Nat → Int64) (hO : OkC co) (gw : Rg w) (gy : Rg y) (k0 : 0 ≤ w ∧ w < co 0 1) (nk : ¬ (0 ≤ y ∧ y < co 0 1)) : MuW l yL_areConnectedBySearch cL_areConnectedBySearch 5 (some .int) [(0, 17, 20, 25)] 8 1 6 E [] [.ref x, .int (zI w), .int (zI y), .ref oa] (fun H => PR E x [(x, .inr (11, [.ref (x + 1), .ref (x + 29), .ref (x + 57), .ref (x + 85), .ref (x + 311), .ref (x + 314), .ref (x + 319), .ref (x + 332), .int (zI hs), .int (zI er), .int (zI fa), .int (zI ss)]))] H ∧ PR E (x + 1) (courtW E (x + 1) co) H ∧ PR E oa [(oa, .inl (E 102 4, 1, .inr (.inl lg)))] H) (fun rv H => rv = some (.int (zI 1))) := by
  refine MuW.start (own := RL) rfl (by decide +kernel) (Nat.le_of_ble_eq_true rfl) ?_
  intro p e s m below meth cd args Q hQ X hr hlk htab hM hPr
  obtain ⟨h_cm, h_co, h_out⟩ := hPr
  refine v_aload_n X dL_areConnectedBySearch_0 1 rfl 3 rfl ?_
  refine v_iconst X dL_areConnectedBySearch_1 2 rfl ?_
  refine v_aload_n X dL_areConnectedBySearch_2 3 rfl 0 rfl ?_
  refine v_iload_n X dL_areConnectedBySearch_3 4 rfl 1 rfl ?_
  refine v_iload_n X dL_areConnectedBySearch_4 5 rfl 2 rfl ?_
  have hht : HT RL "java/lang/IndexOutOfBoundsException" s [(0, 17, 20, 25)] 5 0 20 := ⟨(0, 17, 20, 25), rfl, rfl, by decide, by decide, xl_L_25, xc_IOB, by
    intro i z hi hz
    omega⟩
  refine v_txC X htab hM (h_cm.1) (x_X9_areConnectedBySearch_1 l hl E x co hs er fa ss w y hO gw gy k0 nk) kvX9_areConnectedBySearch kiX9_areConnectedBySearch kl_L_101 (q0 := 0) rfl rfl (As := [.int (zI w), .int (zI y)]) rfl rfl rfl dL_areConnectedBySearch_5 0 20 hht (k' := 1) (n' := 6) rfl rfl (fun q hq => hq.elim) ⟨h_cm, h_co⟩ (fun q9 H1 lo1 hM hF hpo => ?_)
  replace h_cm := h_cm.kept hF 1 rfl (fun q _ _ h => h.elim)
  replace h_co := h_co.kept hF 28 rfl (fun q _ _ h => h.elim)
  replace h_out := h_out.kept hF 1 rfl (fun q _ _ h => h.elim)
  show V p l e (rmL 8 1 6) s m args below meth cd Q 5 H1 lo1 1 6 20 [(0, .ref x), (1, .int (zI w)), (2, .int (zI y)), (3, .ref oa)] [.ref q9]
  refine v_astore X dL_areConnectedBySearch_20 22 rfl (by decide) (L' := [(4, .ref q9), (0, .ref x), (1, .int (zI w)), (2, .int (zI y)), (3, .ref oa)]) rfl ?_
  refine v_iconst X dL_areConnectedBySearch_22 23 rfl ?_
  subst hQ; exact m_iret X hr hlk hM dL_areConnectedBySearch_23 rfl rfl
set_option maxHeartbeats 4000000 in
set_option maxRecDepth 20000 in
theorem w_X9_restore (l : Launch) (hl : l.stackTraces = false) (E : Nat → Nat → Nat) (x : Nat) (co : Nat → Int → Int) (hs : Int) (er : Int) (fa : Int) (ss : Int) (cv : Nat → Int → Int) (nx : Int) (sz : Int) (oa : Nat) (lg : Nat → Int64) (hO : OkC co) (k0 : hs = 1) (gh : hs = 0 ∨ hs = 1) (hd_cm_co : x + 1 ≤ x + 1 ∨ x + 1 + 28 ≤ x) (hd_cm_hi : x + 1 ≤ x + 85 ∨ x + 85 + 2 ≤ x) (hd_cm_out : x + 1 ≤ oa ∨ oa + 1 ≤ x) (hd_co_sv : x + 1 + 28 ≤ x + 57 ∨ x + 57 + 28 ≤ x + 1) (hd_co_hi : x + 1 + 28 ≤ x + 85 ∨ x + 85 + 2 ≤ x + 1) (hd_co_out : x + 1 + 28 ≤ oa ∨ oa + 1 ≤ x + 1) (hd_sv_hi : x + 57 + 28 ≤ x + 85 ∨ x + 85 + 2 ≤ x + 57) (hd_sv_out : x + 57 + 28 ≤ oa ∨ oa + 1 ≤ x + 57) (hd_hi_out : x + 85 + 2 ≤ oa ∨ oa + 1 ≤ x + 85) : MuW l yL_restore cL_restore 3 (some .int) [(0, 8, 11, 15)] 4 1 6 E [(x + 1, 28), (x + 85, 2), (oa, 1)] [.ref x, .ref oa] (fun H => PR E x [(x, .inr (11, [.ref (x + 1), .ref (x + 29), .ref (x + 57), .ref (x + 85), .ref (x + 311), .ref (x + 314), .ref (x + 319), .ref (x + 332), .int (zI hs), .int (zI er), .int (zI fa), .int (zI ss)]))] H ∧ PR E (x + 1) (courtW E (x + 1) co) H ∧ PR E (x + 57) (courtW E (x + 57) cv) H ∧ PR E (x + 85) [(x + 85, .inr (7, [.ref (x + 86), .int (zI nx), .int (zI sz)])), (x + 86, .inl (E 102 3, 8, .inr (.inr (.inr (.inr (hisA (x + 87) 8))))))] H ∧ PR E oa [(oa, .inl (E 102 4, 1, .inr (.inl lg)))] H) (fun rv H => rv = some (.int (zI 0)) ∧ PR E (x + 1) (courtW E (x + 1) cv) H ∧ PR E (x + 85) [(x + 85, .inr (7, [.ref (x + 86), .int (zI nx), .int (zI 0)])), (x + 86, .inl (E 102 3, 8, .inr (.inr (.inr (.inr (hisA (x + 87) 8))))))] H ∧ PR E oa [(oa, .inl (E 102 4, 1, .inr (.inl (fun _ => zL (cv 0 0)))))] H) := by
  refine MuW.start (own := RL) rfl (by decide +kernel) (Nat.le_of_ble_eq_true rfl) ?_
  intro p e s m below meth cd args Q hQ X hr hlk htab hM hPr
  obtain ⟨h_cm, h_co, h_sv, h_hi, h_out⟩ := hPr
  refine v_aload_n X dL_restore_0 1 rfl 1 rfl ?_
  refine v_iconst X dL_restore_1 2 rfl ?_
  refine v_aload_n X dL_restore_2 3 rfl 0 rfl ?_
  refine v_muV X hM (h_cm.1) (c_X9_restore l E x co hs er fa ss cv nx sz hO k0 gh hd_cm_co hd_cm_hi hd_co_sv hd_co_hi hd_sv_hi) kvX9_restore kiX9_restore kl_L_183 (q0 := 0) rfl rfl (As := []) rfl rfl rfl dL_restore_3 6 rfl (k' := 0) (n' := 0) rfl rfl (by intro q hq; simp only [Fr, Fs, or_false, false_or] at hq ⊢; omega) ⟨h_cm, h_co, h_sv, h_hi⟩ (fun rv H1 lo1 hM hF hpo => ?_)
  obtain ⟨rfl, hw_0, hw_1⟩ := hpo
  have h_co : PR E (x + 1) (courtW E (x + 1) cv) H1 := hw_0
  have h_hi : PR E (x + 85) [(x + 85, .inr (7, [.ref (x + 86), .int (zI nx), .int (zI 0)])), (x + 86, .inl (E 102 3, 8, .inr (.inr (.inr (.inr (hisA (x + 87) 8))))))] H1 := hw_1
  replace h_cm := h_cm.kept hF 1 rfl (by intro q q1 q2 q3; simp only [Fs, or_false] at q3; omega)
  replace h_sv := h_sv.kept hF 28 rfl (by intro q q1 q2 q3; simp only [Fs, or_false] at q3; omega)
  replace h_out := h_out.kept hF 1 rfl (by intro q q1 q2 q3; simp only [Fs, or_false] at q3; omega)
  show V p l e (rmL 4 1 6) s m args below meth cd Q 3 H1 lo1 0 0 6 [(0, .ref x), (1, .ref oa)] [.int (zI (cv 0 0)), .int (zI 0), .ref oa]
  refine v_i2l X dL_restore_6 7 rfl ?_
  refine v_last X hM h_out 0 rfl (Or.inl (fsT (fsT (fsH (by omega) (by omega))))) dL_restore_7 8 rfl (ws' := [(oa, .inl (E 102 4, 1, .inr (.inl (fun _ => zL (cv 0 0)))))]) rfl (fun H2 lo2 hzz hM hF h_out => ?_)
  clear hzz
  replace h_cm := h_cm.kept hF 1 rfl (fsd (by omega))
  replace h_co := h_co.kept hF 28 rfl (fsd (by omega))
  replace h_sv := h_sv.kept hF 28 rfl (fsd (by omega))
  replace h_hi := h_hi.kept hF 2 rfl (fsd (by omega))
  refine v_goto X dL_restore_8 14 (by decide) ?_
  refine v_iconst X dL_restore_14 15 rfl ?_
  subst hQ; exact m_iret X hr hlk hM dL_restore_15 rfl ⟨rfl, h_co, h_hi, h_out⟩
set_option maxHeartbeats 4000000 in
set_option maxRecDepth 20000 in
theorem w_X9_restore_0_t (l : Launch) (hl : l.stackTraces = false) (E : Nat → Nat → Nat) (x : Nat) (co : Nat → Int → Int) (hs : Int) (er : Int) (fa : Int) (ss : Int) (cv : Nat → Int → Int) (nx : Int) (sz : Int) (oa : Nat) (lg : Nat → Int64) (hO : OkC co) (nk : ¬ (hs = 1)) (gh : hs = 0 ∨ hs = 1) : MuW l yL_restore cL_restore 3 (some .int) [(0, 8, 11, 15)] 7 1 6 E [] [.ref x, .ref oa] (fun H => PR E x [(x, .inr (11, [.ref (x + 1), .ref (x + 29), .ref (x + 57), .ref (x + 85), .ref (x + 311), .ref (x + 314), .ref (x + 319), .ref (x + 332), .int (zI hs), .int (zI er), .int (zI fa), .int (zI ss)]))] H ∧ PR E (x + 1) (courtW E (x + 1) co) H ∧ PR E (x + 57) (courtW E (x + 57) cv) H ∧ PR E (x + 85) [(x + 85, .inr (7, [.ref (x + 86), .int (zI nx), .int (zI sz)])), (x + 86, .inl (E 102 3, 8, .inr (.inr (.inr (.inr (hisA (x + 87) 8))))))] H ∧ PR E oa [(oa, .inl (E 102 4, 1, .inr (.inl lg)))] H) (fun rv H => rv = some (.int (zI 1))) := by
  refine MuW.start (own := RL) rfl (by decide +kernel) (Nat.le_of_ble_eq_true rfl) ?_
  intro p e s m below meth cd args Q hQ X hr hlk htab hM hPr
  obtain ⟨h_cm, h_co, h_sv, h_hi, h_out⟩ := hPr
  refine v_aload_n X dL_restore_0 1 rfl 1 rfl ?_
  refine v_iconst X dL_restore_1 2 rfl ?_
  refine v_aload_n X dL_restore_2 3 rfl 0 rfl ?_
  have hht : HT RL "java/lang/IllegalStateException" s [(0, 8, 11, 15)] 3 0 11 := ⟨(0, 8, 11, 15), rfl, rfl, by decide, by decide, xl_L_15, xc_ISE, by
    intro i z hi hz
    omega⟩
  refine v_txC X htab hM (h_cm.1) (x_X9_restore_0 l hl E x co hs er fa ss cv nx sz hO nk gh) kvX9_restore kiX9_restore kl_L_183 (q0 := 0) rfl rfl (As := []) rfl rfl rfl dL_restore_3 0 11 hht (k' := 1) (n' := 6) rfl rfl (fun q hq => hq.elim) ⟨h_cm, h_co, h_sv, h_hi⟩ (fun q9 H1 lo1 hM hF hpo => ?_)
  replace h_cm := h_cm.kept hF 1 rfl (fun q _ _ h => h.elim)
  replace h_co := h_co.kept hF 28 rfl (fun q _ _ h => h.elim)
  replace h_sv := h_sv.kept hF 28 rfl (fun q _ _ h => h.elim)
  replace h_hi := h_hi.kept hF 2 rfl (fun q _ _ h => h.elim)
  replace h_out := h_out.kept hF 1 rfl (fun q _ _ h => h.elim)
  show V p l e (rmL 7 1 6) s m args below meth cd Q 3 H1 lo1 1 6 11 [(0, .ref x), (1, .ref oa)] [.ref q9]
  refine v_astore_n X dL_restore_11 12 rfl rfl (by decide) (L' := [(2, .ref q9), (0, .ref x), (1, .ref oa)]) rfl ?_
  refine v_iconst X dL_restore_12 13 rfl ?_
  subst hQ; exact m_iret X hr hlk hM dL_restore_13 rfl rfl
set_option maxHeartbeats 4000000 in
set_option maxRecDepth 20000 in
theorem w_X9_undo (l : Launch) (hl : l.stackTraces = false) (E : Nat → Nat → Nat) (x : Nat) (co : Nat → Int → Int) (hs : Int) (er : Int) (fa : Int) (ss : Int) (hc : Nat → Nat → Int → Int) (nx : Int) (sz : Int) (oa : Nat) (lg : Nat → Int64) (hO : OkC co) (k0 : ¬ sz = 0) (n0 : 0 ≤ nx) (n1 : nx < 8) (s0 : 0 ≤ sz) (s1 : sz ≤ 8) (hd_cm_co : x + 1 ≤ x + 1 ∨ x + 1 + 28 ≤ x) (hd_cm_hi : x + 1 ≤ x + 85 ∨ x + 85 + 2 ≤ x) (hd_cm_out : x + 1 ≤ oa ∨ oa + 1 ≤ x) (hd_co_hi : x + 1 + 28 ≤ x + 85 ∨ x + 85 + 2 ≤ x + 1) (hd_co_hf : x + 1 + 28 ≤ x + 87 ∨ x + 87 + 224 ≤ x + 1) (hd_co_out : x + 1 + 28 ≤ oa ∨ oa + 1 ≤ x + 1) (hd_hi_hf : x + 85 + 2 ≤ x + 87 ∨ x + 87 + 224 ≤ x + 85) (hd_hi_out : x + 85 + 2 ≤ oa ∨ oa + 1 ≤ x + 85) (hd_hf_out : x + 87 + 224 ≤ oa ∨ oa + 1 ≤ x + 87) : MuW l yL_undo cL_undo 3 (some .int) [(0, 8, 11, 15)] 5 1 6 E [(x + 1, 28), (x + 85, 2), (oa, 1)] [.ref x, .ref oa] (fun H => PR E x [(x, .inr (11, [.ref (x + 1), .ref (x + 29), .ref (x + 57), .ref (x + 85), .ref (x + 311), .ref (x + 314), .ref (x + 319), .ref (x + 332), .int (zI hs), .int (zI er), .int (zI fa), .int (zI ss)]))] H ∧ PR E (x + 1) (courtW E (x + 1) co) H ∧ PR E (x + 85) [(x + 85, .inr (7, [.ref (x + 86), .int (zI nx), .int (zI sz)])), (x + 86, .inl (E 102 3, 8, .inr (.inr (.inr (.inr (hisA (x + 87) 8))))))] H ∧ HF E (x + 87) 8 hc H ∧ PR E oa [(oa, .inl (E 102 4, 1, .inr (.inl lg)))] H) (fun rv H => rv = some (.int (zI 0)) ∧ PR E (x + 1) (courtW E (x + 1) (hc (if 0 < nx then nx - 1 else 7).toNat)) H ∧ PR E (x + 85) [(x + 85, .inr (7, [.ref (x + 86), .int (zI (if 0 < nx then nx - 1 else 7)), .int (zI (sz - 1))])), (x + 86, .inl (E 102 3, 8, .inr (.inr (.inr (.inr (hisA (x + 87) 8))))))] H ∧ PR E oa [(oa, .inl (E 102 4, 1, .inr (.inl (fun _ => zL (sz - 1)))))] H) := by
  refine MuW.start (own := RL) rfl (by decide +kernel) (Nat.le_of_ble_eq_true rfl) ?_
  intro p e s m below meth cd args Q hQ X hr hlk htab hM hPr
  obtain ⟨h_cm, h_co, h_hi, h_hf, h_out⟩ := hPr
  refine v_aload_n X dL_undo_0 1 rfl 1 rfl ?_
  refine v_iconst X dL_undo_1 2 rfl ?_
  refine v_aload_n X dL_undo_2 3 rfl 0 rfl ?_
  refine v_muV X hM (h_cm.1) (c_X9_undo l E x co hs er fa ss hc nx sz hO k0 n0 n1 s0 s1 hd_cm_co hd_cm_hi hd_co_hi hd_co_hf hd_hi_hf) kvX9_undo kiX9_undo kl_L_180 (q0 := 0) rfl rfl (As := []) rfl rfl rfl dL_undo_3 6 rfl (k' := 0) (n' := 0) rfl rfl (by intro q hq; simp only [Fr, Fs, or_false, false_or] at hq ⊢; omega) ⟨h_cm, h_co, h_hi, h_hf⟩ (fun rv H1 lo1 hM hF hpo => ?_)
  obtain ⟨rfl, hw_0, hw_1⟩ := hpo
  have h_co : PR E (x + 1) (courtW E (x + 1) (hc (if 0 < nx then nx - 1 else 7).toNat)) H1 := hw_0
  have h_hi : PR E (x + 85) [(x + 85, .inr (7, [.ref (x + 86), .int (zI (if 0 < nx then nx - 1 else 7)), .int (zI (sz - 1))])), (x + 86, .inl (E 102 3, 8, .inr (.inr (.inr (.inr (hisA (x + 87) 8))))))] H1 := hw_1
  replace h_cm := h_cm.kept hF 1 rfl (by intro q q1 q2 q3; simp only [Fs, or_false] at q3; omega)
  replace h_hf := h_hf.kept hF (by intro q q1 q2 q3; simp only [Fs, or_false] at q3; omega)
  replace h_out := h_out.kept hF 1 rfl (by intro q q1 q2 q3; simp only [Fs, or_false] at q3; omega)
  show V p l e (rmL 5 1 6) s m args below meth cd Q 3 H1 lo1 0 0 6 [(0, .ref x), (1, .ref oa)] [.int (zI (sz - 1)), .int (zI 0), .ref oa]
  refine v_i2l X dL_undo_6 7 rfl ?_
  refine v_last X hM h_out 0 rfl (Or.inl (fsT (fsT (fsH (by omega) (by omega))))) dL_undo_7 8 rfl (ws' := [(oa, .inl (E 102 4, 1, .inr (.inl (fun _ => zL (sz - 1)))))]) rfl (fun H2 lo2 hzz hM hF h_out => ?_)
  clear hzz
  replace h_cm := h_cm.kept hF 1 rfl (fsd (by omega))
  replace h_co := h_co.kept hF 28 rfl (fsd (by omega))
  replace h_hi := h_hi.kept hF 2 rfl (fsd (by omega))
  replace h_hf := h_hf.kept hF (fsd (by omega))
  refine v_goto X dL_undo_8 14 (by decide) ?_
  refine v_iconst X dL_undo_14 15 rfl ?_
  subst hQ; exact m_iret X hr hlk hM dL_undo_15 rfl ⟨rfl, h_co, h_hi, h_out⟩
set_option maxHeartbeats 4000000 in
set_option maxRecDepth 20000 in
theorem w_X9_undo_0_t (l : Launch) (hl : l.stackTraces = false) (E : Nat → Nat → Nat) (x : Nat) (co : Nat → Int → Int) (hs : Int) (er : Int) (fa : Int) (ss : Int) (hc : Nat → Nat → Int → Int) (nx : Int) (sz : Int) (oa : Nat) (lg : Nat → Int64) (hO : OkC co) (nk : ¬ (¬ sz = 0)) (n0 : 0 ≤ nx) (n1 : nx < 8) (s0 : 0 ≤ sz) (s1 : sz ≤ 8) : MuW l yL_undo cL_undo 3 (some .int) [(0, 8, 11, 15)] 7 1 6 E [] [.ref x, .ref oa] (fun H => PR E x [(x, .inr (11, [.ref (x + 1), .ref (x + 29), .ref (x + 57), .ref (x + 85), .ref (x + 311), .ref (x + 314), .ref (x + 319), .ref (x + 332), .int (zI hs), .int (zI er), .int (zI fa), .int (zI ss)]))] H ∧ PR E (x + 1) (courtW E (x + 1) co) H ∧ PR E (x + 85) [(x + 85, .inr (7, [.ref (x + 86), .int (zI nx), .int (zI sz)])), (x + 86, .inl (E 102 3, 8, .inr (.inr (.inr (.inr (hisA (x + 87) 8))))))] H ∧ HF E (x + 87) 8 hc H ∧ PR E oa [(oa, .inl (E 102 4, 1, .inr (.inl lg)))] H) (fun rv H => rv = some (.int (zI 1))) := by
  refine MuW.start (own := RL) rfl (by decide +kernel) (Nat.le_of_ble_eq_true rfl) ?_
  intro p e s m below meth cd args Q hQ X hr hlk htab hM hPr
  obtain ⟨h_cm, h_co, h_hi, h_hf, h_out⟩ := hPr
  refine v_aload_n X dL_undo_0 1 rfl 1 rfl ?_
  refine v_iconst X dL_undo_1 2 rfl ?_
  refine v_aload_n X dL_undo_2 3 rfl 0 rfl ?_
  have hht : HT RL "java/lang/IllegalStateException" s [(0, 8, 11, 15)] 3 0 11 := ⟨(0, 8, 11, 15), rfl, rfl, by decide, by decide, xl_L_15, xc_ISE, by
    intro i z hi hz
    omega⟩
  refine v_txC X htab hM (h_cm.1) (x_X9_undo_0 l hl E x co hs er fa ss hc nx sz hO nk n0 n1 s0 s1) kvX9_undo kiX9_undo kl_L_180 (q0 := 0) rfl rfl (As := []) rfl rfl rfl dL_undo_3 0 11 hht (k' := 1) (n' := 6) rfl rfl (fun q hq => hq.elim) ⟨h_cm, h_co, h_hi, h_hf⟩ (fun q9 H1 lo1 hM hF hpo => ?_)
  replace h_cm := h_cm.kept hF 1 rfl (fun q _ _ h => h.elim)
  replace h_co := h_co.kept hF 28 rfl (fun q _ _ h => h.elim)
  replace h_hi := h_hi.kept hF 2 rfl (fun q _ _ h => h.elim)
  replace h_hf := h_hf.kept hF (fun q _ _ h => h.elim)
  replace h_out := h_out.kept hF 1 rfl (fun q _ _ h => h.elim)
  show V p l e (rmL 7 1 6) s m args below meth cd Q 3 H1 lo1 1 6 11 [(0, .ref x), (1, .ref oa)] [.ref q9]
  refine v_astore_n X dL_undo_11 12 rfl rfl (by decide) (L' := [(2, .ref q9), (0, .ref x), (1, .ref oa)]) rfl ?_
  refine v_iconst X dL_undo_12 13 rfl ?_
  subst hQ; exact m_iret X hr hlk hM dL_undo_13 rfl rfl
