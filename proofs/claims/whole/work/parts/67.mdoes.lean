set_option maxHeartbeats 4000000 in
set_option maxRecDepth 20000 in
theorem c_X10_does_ok_0 (l : Launch) (E : Nat → Nat → Nat) (b : Nat) (mo : Nat → Int → Int) (co : Nat → Int → Int) (k : Int) (a : Int) (y : Int) (f : Int) (z : Int) (hO : OkC co) (hR : RelC co (mo 1)) (hI : TsI co) (hSt : StI co) (k0 : 0 ≤ k) (k1 : k < 61) (h0 : mo 4 (5 * k) = kcd 0) (ha : mo 4 (5 * k + 1) = a) (ga : Rg a) (hy : mo 4 (5 * k + 2) = y) (gy : Rg y) (hf : flC co 0 a y z = 0) : Mu l yX10_does cX10_does 5 (some .int) 5 0 0 E [(b, 5)] [.ref b, .int (zI (5 * k))] (fun H => PR E b (modelW E b mo) H) (fun rv H => ∃ g1 : Int → Int, ∃ q4 : Int, rv = some (.int (zI 0)) ∧ RelC (opC co 0 a y f z) g1 ∧ (∀ i : Int, 492 ≤ i → g1 i = mo 1 i) ∧ PR E b (modelW E b (updC (updC mo 0 (updZ (mo 0) 4 q4)) 1 g1)) H) := by
  refine Mu.start (own := RX10) rfl (by decide +kernel) (Nat.le_of_ble_eq_true rfl) ?_
  intro p e s m below meth cd args Q hQ X hr hlk hnm hM hPr
  have h_mo := hPr
  have hb0 := hO.b0
  have hbw := hO.bw
  have hr0 := hR.s0
  have hr1 := hR.s1
  refine v_aload_n X dX10_does_0 1 rfl 0 rfl ?_
  refine v_getf X hM.C h_mo.1 inX10 0 rfl rfl 14 (by decide) kf_X10_27 (fun _ h => h) rfl dX10_does_1 4 rfl ?_
  refine v_iload_n X dX10_does_4 5 rfl 1 rfl ?_
  refine v_iconst X dX10_does_5 6 rfl ?_
  refine v_iadd X dX10_does_6 7 rfl ?_
  refine v_iald X hM.C h_mo.1 4 rfl (by omega) (by omega) (by omega) dX10_does_7 8 rfl ?_
  show V p l e (rmL 5 0 0) s m args below meth cd Q 5 s.heap [] 0 0 8 [(0, .ref b), (1, .int (zI (5 * k)))] [.int (zI (mo 4 (5 * k + 1)))]
  refine V_S (st' := [.int (zI a)]) (by rw [ha]) ?_
  refine v_istore_n X dX10_does_8 9 rfl rfl (by decide) (L' := [(2, .int (zI a)), (0, .ref b), (1, .int (zI (5 * k)))]) rfl ?_
  refine v_aload_n X dX10_does_9 10 rfl 1 rfl ?_
  refine v_getf X hM.C h_mo.1 inX10 0 rfl rfl 14 (by decide) kf_X10_27 (fun _ h => h) rfl dX10_does_10 13 rfl ?_
  refine v_iload_n X dX10_does_13 14 rfl 2 rfl ?_
  refine v_iconst X dX10_does_14 15 rfl ?_
  refine v_iadd X dX10_does_15 16 rfl ?_
  refine v_iald X hM.C h_mo.1 4 rfl (by omega) (by omega) (by omega) dX10_does_16 17 rfl ?_
  show V p l e (rmL 5 0 0) s m args below meth cd Q 5 s.heap [] 0 0 17 [(2, .int (zI a)), (0, .ref b), (1, .int (zI (5 * k)))] [.int (zI (mo 4 (5 * k + 2)))]
  refine V_S (st' := [.int (zI y)]) (by rw [hy]) ?_
  refine v_istore_n X dX10_does_17 18 rfl rfl (by decide) (L' := [(3, .int (zI y)), (2, .int (zI a)), (0, .ref b), (1, .int (zI (5 * k)))]) rfl ?_
  refine v_aload_n X dX10_does_18 19 rfl 2 rfl ?_
  refine v_getf X hM.C h_mo.1 inX10 0 rfl rfl 14 (by decide) kf_X10_27 (fun _ h => h) rfl dX10_does_19 22 rfl ?_
  refine v_iload_n X dX10_does_22 23 rfl 3 rfl ?_
  refine v_iconst X dX10_does_23 24 rfl ?_
  refine v_iadd X dX10_does_24 25 rfl ?_
  refine v_iald X hM.C h_mo.1 4 rfl (by omega) (by omega) (by omega) dX10_does_25 26 rfl ?_
  show V p l e (rmL 5 0 0) s m args below meth cd Q 5 s.heap [] 0 0 26 [(3, .int (zI y)), (2, .int (zI a)), (0, .ref b), (1, .int (zI (5 * k)))] [.int (zI (mo 4 (5 * k + 3)))]
  refine v_istore X dX10_does_26 28 rfl (by decide) (L' := [(4, .int (zI (mo 4 (5 * k + 3)))), (3, .int (zI y)), (2, .int (zI a)), (0, .ref b), (1, .int (zI (5 * k)))]) rfl ?_
  refine v_aload_n X dX10_does_28 29 rfl 3 rfl ?_
  refine v_getf X hM.C h_mo.1 inX10 0 rfl rfl 14 (by decide) kf_X10_27 (fun _ h => h) rfl dX10_does_29 32 rfl ?_
  refine v_iload_n X dX10_does_32 33 rfl 4 rfl ?_
  refine v_iald X hM.C h_mo.1 4 rfl (by omega) (by omega) (by omega) dX10_does_33 34 rfl ?_
  show V p l e (rmL 5 0 0) s m args below meth cd Q 5 s.heap [] 0 0 34 [(4, .int (zI (mo 4 (5 * k + 3)))), (3, .int (zI y)), (2, .int (zI a)), (0, .ref b), (1, .int (zI (5 * k)))] [.int (zI (mo 4 (5 * k)))]
  refine V_S (st' := [.int (zI 99)]) (by rw [h0]; rfl) ?_
  refine v_lookup X dX10_does_34 (by decide) (off := 58) (by decide) 92 (by decide) ?_
  refine v_aload_n X dX10_does_92 93 rfl 3 rfl ?_
  refine v_iload_n X dX10_does_93 94 rfl 2 rfl ?_
  refine v_iload_n X dX10_does_94 95 rfl 1 rfl ?_
  refine v_muV X hM (h_mo.1) (c_X10_charges_ok l E b mo co a y hO hR hI ga gy hf hSt) kvX10_charges kiX10_charges kl_X10_82 (q0 := 0) rfl rfl (As := [.int (zI a), .int (zI y)]) rfl rfl rfl dX10_does_95 98 rfl (k' := 0) (n' := 0) rfl rfl (fsI (fun q q1 q2 => (Or.inl (fsH (by omega) (by omega))))) h_mo (fun rv H1 lo1 hM hF hpo => ?_)
  obtain ⟨g1_2, rfl, hp_f_3, hp_f_4, hw_0⟩ := hpo
  have h_mo : PR E b (modelW E b (updC (updC mo 0 (updZ (mo 0) 4 (opV co 0 a y 0 0))) 1 g1_2)) H1 := hw_0
  show V p l e (rmL 5 0 0) s m args below meth cd Q 5 H1 lo1 0 0 98 [(4, .int (zI (mo 4 (5 * k + 3)))), (3, .int (zI y)), (2, .int (zI a)), (0, .ref b), (1, .int (zI (5 * k)))] [.int (zI 0)]
  subst hQ; exact m_iret X hr hlk hM dX10_does_98 rfl ⟨g1_2, (opV co 0 a y 0 0), rfl, (by exact hp_f_3), (by exact hp_f_4), h_mo⟩
set_option maxHeartbeats 4000000 in
set_option maxRecDepth 20000 in
theorem c_X10_does_f2_0 (l : Launch) (E : Nat → Nat → Nat) (b : Nat) (mo : Nat → Int → Int) (co : Nat → Int → Int) (k : Int) (a : Int) (y : Int) (f : Int) (z : Int) (hO : OkC co) (hR : RelC co (mo 1)) (hI : TsI co) (k0 : 0 ≤ k) (k1 : k < 61) (h0 : mo 4 (5 * k) = kcd 0) (ha : mo 4 (5 * k + 1) = a) (ga : Rg a) (hy : mo 4 (5 * k + 2) = y) (gy : Rg y) (hf : flC co 0 a y z = 2) : Mu l yX10_does cX10_does 5 (some .int) 5 0 0 E [] [.ref b, .int (zI (5 * k))] (fun H => PR E b (modelW E b mo) H) (fun rv H => rv = some (.int (zI 2))) := by
  refine Mu.start (own := RX10) rfl (by decide +kernel) (Nat.le_of_ble_eq_true rfl) ?_
  intro p e s m below meth cd args Q hQ X hr hlk hnm hM hPr
  have h_mo := hPr
  have hb0 := hO.b0
  have hbw := hO.bw
  have hr0 := hR.s0
  have hr1 := hR.s1
  refine v_aload_n X dX10_does_0 1 rfl 0 rfl ?_
  refine v_getf X hM.C h_mo.1 inX10 0 rfl rfl 14 (by decide) kf_X10_27 (fun _ h => h) rfl dX10_does_1 4 rfl ?_
  refine v_iload_n X dX10_does_4 5 rfl 1 rfl ?_
  refine v_iconst X dX10_does_5 6 rfl ?_
  refine v_iadd X dX10_does_6 7 rfl ?_
  refine v_iald X hM.C h_mo.1 4 rfl (by omega) (by omega) (by omega) dX10_does_7 8 rfl ?_
  show V p l e (rmL 5 0 0) s m args below meth cd Q 5 s.heap [] 0 0 8 [(0, .ref b), (1, .int (zI (5 * k)))] [.int (zI (mo 4 (5 * k + 1)))]
  refine V_S (st' := [.int (zI a)]) (by rw [ha]) ?_
  refine v_istore_n X dX10_does_8 9 rfl rfl (by decide) (L' := [(2, .int (zI a)), (0, .ref b), (1, .int (zI (5 * k)))]) rfl ?_
  refine v_aload_n X dX10_does_9 10 rfl 1 rfl ?_
  refine v_getf X hM.C h_mo.1 inX10 0 rfl rfl 14 (by decide) kf_X10_27 (fun _ h => h) rfl dX10_does_10 13 rfl ?_
  refine v_iload_n X dX10_does_13 14 rfl 2 rfl ?_
  refine v_iconst X dX10_does_14 15 rfl ?_
  refine v_iadd X dX10_does_15 16 rfl ?_
  refine v_iald X hM.C h_mo.1 4 rfl (by omega) (by omega) (by omega) dX10_does_16 17 rfl ?_
  show V p l e (rmL 5 0 0) s m args below meth cd Q 5 s.heap [] 0 0 17 [(2, .int (zI a)), (0, .ref b), (1, .int (zI (5 * k)))] [.int (zI (mo 4 (5 * k + 2)))]
  refine V_S (st' := [.int (zI y)]) (by rw [hy]) ?_
  refine v_istore_n X dX10_does_17 18 rfl rfl (by decide) (L' := [(3, .int (zI y)), (2, .int (zI a)), (0, .ref b), (1, .int (zI (5 * k)))]) rfl ?_
  refine v_aload_n X dX10_does_18 19 rfl 2 rfl ?_
  refine v_getf X hM.C h_mo.1 inX10 0 rfl rfl 14 (by decide) kf_X10_27 (fun _ h => h) rfl dX10_does_19 22 rfl ?_
  refine v_iload_n X dX10_does_22 23 rfl 3 rfl ?_
  refine v_iconst X dX10_does_23 24 rfl ?_
  refine v_iadd X dX10_does_24 25 rfl ?_
  refine v_iald X hM.C h_mo.1 4 rfl (by omega) (by omega) (by omega) dX10_does_25 26 rfl ?_
  show V p l e (rmL 5 0 0) s m args below meth cd Q 5 s.heap [] 0 0 26 [(3, .int (zI y)), (2, .int (zI a)), (0, .ref b), (1, .int (zI (5 * k)))] [.int (zI (mo 4 (5 * k + 3)))]
  refine v_istore X dX10_does_26 28 rfl (by decide) (L' := [(4, .int (zI (mo 4 (5 * k + 3)))), (3, .int (zI y)), (2, .int (zI a)), (0, .ref b), (1, .int (zI (5 * k)))]) rfl ?_
  refine v_aload_n X dX10_does_28 29 rfl 3 rfl ?_
  refine v_getf X hM.C h_mo.1 inX10 0 rfl rfl 14 (by decide) kf_X10_27 (fun _ h => h) rfl dX10_does_29 32 rfl ?_
  refine v_iload_n X dX10_does_32 33 rfl 4 rfl ?_
  refine v_iald X hM.C h_mo.1 4 rfl (by omega) (by omega) (by omega) dX10_does_33 34 rfl ?_
  show V p l e (rmL 5 0 0) s m args below meth cd Q 5 s.heap [] 0 0 34 [(4, .int (zI (mo 4 (5 * k + 3)))), (3, .int (zI y)), (2, .int (zI a)), (0, .ref b), (1, .int (zI (5 * k)))] [.int (zI (mo 4 (5 * k)))]
  refine V_S (st' := [.int (zI 99)]) (by rw [h0]; rfl) ?_
  refine v_lookup X dX10_does_34 (by decide) (off := 58) (by decide) 92 (by decide) ?_
  refine v_aload_n X dX10_does_92 93 rfl 3 rfl ?_
  refine v_iload_n X dX10_does_93 94 rfl 2 rfl ?_
  refine v_iload_n X dX10_does_94 95 rfl 1 rfl ?_
  refine v_muV X hM (h_mo.1) (c_X10_charges_f2 l E b mo co a y hO hR hI ga gy hf) kvX10_charges kiX10_charges kl_X10_82 (q0 := 0) rfl rfl (As := [.int (zI a), .int (zI y)]) rfl rfl rfl dX10_does_95 98 rfl (k' := 0) (n' := 0) rfl rfl (fun q hq => hq.elim) h_mo (fun rv H1 lo1 hM hF hpo => ?_)
  subst hpo
  replace h_mo := h_mo.kept hF 5 rfl (fun q _ _ h => h.elim)
  show V p l e (rmL 5 0 0) s m args below meth cd Q 5 H1 lo1 0 0 98 [(4, .int (zI (mo 4 (5 * k + 3)))), (3, .int (zI y)), (2, .int (zI a)), (0, .ref b), (1, .int (zI (5 * k)))] [.int (zI 2)]
  subst hQ; exact m_iret X hr hlk hM dX10_does_98 rfl rfl
set_option maxHeartbeats 4000000 in
set_option maxRecDepth 20000 in
theorem c_X10_does_f4_0 (l : Launch) (E : Nat → Nat → Nat) (b : Nat) (mo : Nat → Int → Int) (co : Nat → Int → Int) (k : Int) (a : Int) (y : Int) (f : Int) (z : Int) (hO : OkC co) (hR : RelC co (mo 1)) (hI : TsI co) (k0 : 0 ≤ k) (k1 : k < 61) (h0 : mo 4 (5 * k) = kcd 0) (ha : mo 4 (5 * k + 1) = a) (ga : Rg a) (hy : mo 4 (5 * k + 2) = y) (gy : Rg y) (hf : flC co 0 a y z = 4) : Mu l yX10_does cX10_does 5 (some .int) 5 0 0 E [] [.ref b, .int (zI (5 * k))] (fun H => PR E b (modelW E b mo) H) (fun rv H => rv = some (.int (zI 4))) := by
  refine Mu.start (own := RX10) rfl (by decide +kernel) (Nat.le_of_ble_eq_true rfl) ?_
  intro p e s m below meth cd args Q hQ X hr hlk hnm hM hPr
  have h_mo := hPr
  have hb0 := hO.b0
  have hbw := hO.bw
  have hr0 := hR.s0
  have hr1 := hR.s1
  refine v_aload_n X dX10_does_0 1 rfl 0 rfl ?_
  refine v_getf X hM.C h_mo.1 inX10 0 rfl rfl 14 (by decide) kf_X10_27 (fun _ h => h) rfl dX10_does_1 4 rfl ?_
  refine v_iload_n X dX10_does_4 5 rfl 1 rfl ?_
  refine v_iconst X dX10_does_5 6 rfl ?_
  refine v_iadd X dX10_does_6 7 rfl ?_
  refine v_iald X hM.C h_mo.1 4 rfl (by omega) (by omega) (by omega) dX10_does_7 8 rfl ?_
  show V p l e (rmL 5 0 0) s m args below meth cd Q 5 s.heap [] 0 0 8 [(0, .ref b), (1, .int (zI (5 * k)))] [.int (zI (mo 4 (5 * k + 1)))]
  refine V_S (st' := [.int (zI a)]) (by rw [ha]) ?_
  refine v_istore_n X dX10_does_8 9 rfl rfl (by decide) (L' := [(2, .int (zI a)), (0, .ref b), (1, .int (zI (5 * k)))]) rfl ?_
  refine v_aload_n X dX10_does_9 10 rfl 1 rfl ?_
  refine v_getf X hM.C h_mo.1 inX10 0 rfl rfl 14 (by decide) kf_X10_27 (fun _ h => h) rfl dX10_does_10 13 rfl ?_
  refine v_iload_n X dX10_does_13 14 rfl 2 rfl ?_
  refine v_iconst X dX10_does_14 15 rfl ?_
  refine v_iadd X dX10_does_15 16 rfl ?_
  refine v_iald X hM.C h_mo.1 4 rfl (by omega) (by omega) (by omega) dX10_does_16 17 rfl ?_
  show V p l e (rmL 5 0 0) s m args below meth cd Q 5 s.heap [] 0 0 17 [(2, .int (zI a)), (0, .ref b), (1, .int (zI (5 * k)))] [.int (zI (mo 4 (5 * k + 2)))]
  refine V_S (st' := [.int (zI y)]) (by rw [hy]) ?_
  refine v_istore_n X dX10_does_17 18 rfl rfl (by decide) (L' := [(3, .int (zI y)), (2, .int (zI a)), (0, .ref b), (1, .int (zI (5 * k)))]) rfl ?_
  refine v_aload_n X dX10_does_18 19 rfl 2 rfl ?_
  refine v_getf X hM.C h_mo.1 inX10 0 rfl rfl 14 (by decide) kf_X10_27 (fun _ h => h) rfl dX10_does_19 22 rfl ?_
  refine v_iload_n X dX10_does_22 23 rfl 3 rfl ?_
  refine v_iconst X dX10_does_23 24 rfl ?_
  refine v_iadd X dX10_does_24 25 rfl ?_
  refine v_iald X hM.C h_mo.1 4 rfl (by omega) (by omega) (by omega) dX10_does_25 26 rfl ?_
  show V p l e (rmL 5 0 0) s m args below meth cd Q 5 s.heap [] 0 0 26 [(3, .int (zI y)), (2, .int (zI a)), (0, .ref b), (1, .int (zI (5 * k)))] [.int (zI (mo 4 (5 * k + 3)))]
  refine v_istore X dX10_does_26 28 rfl (by decide) (L' := [(4, .int (zI (mo 4 (5 * k + 3)))), (3, .int (zI y)), (2, .int (zI a)), (0, .ref b), (1, .int (zI (5 * k)))]) rfl ?_
  refine v_aload_n X dX10_does_28 29 rfl 3 rfl ?_
  refine v_getf X hM.C h_mo.1 inX10 0 rfl rfl 14 (by decide) kf_X10_27 (fun _ h => h) rfl dX10_does_29 32 rfl ?_
  refine v_iload_n X dX10_does_32 33 rfl 4 rfl ?_
  refine v_iald X hM.C h_mo.1 4 rfl (by omega) (by omega) (by omega) dX10_does_33 34 rfl ?_
  show V p l e (rmL 5 0 0) s m args below meth cd Q 5 s.heap [] 0 0 34 [(4, .int (zI (mo 4 (5 * k + 3)))), (3, .int (zI y)), (2, .int (zI a)), (0, .ref b), (1, .int (zI (5 * k)))] [.int (zI (mo 4 (5 * k)))]
  refine V_S (st' := [.int (zI 99)]) (by rw [h0]; rfl) ?_
  refine v_lookup X dX10_does_34 (by decide) (off := 58) (by decide) 92 (by decide) ?_
  refine v_aload_n X dX10_does_92 93 rfl 3 rfl ?_
  refine v_iload_n X dX10_does_93 94 rfl 2 rfl ?_
  refine v_iload_n X dX10_does_94 95 rfl 1 rfl ?_
  refine v_muV X hM (h_mo.1) (c_X10_charges_f4 l E b mo co a y hO hR hI ga gy hf) kvX10_charges kiX10_charges kl_X10_82 (q0 := 0) rfl rfl (As := [.int (zI a), .int (zI y)]) rfl rfl rfl dX10_does_95 98 rfl (k' := 0) (n' := 0) rfl rfl (fun q hq => hq.elim) h_mo (fun rv H1 lo1 hM hF hpo => ?_)
  subst hpo
  replace h_mo := h_mo.kept hF 5 rfl (fun q _ _ h => h.elim)
  show V p l e (rmL 5 0 0) s m args below meth cd Q 5 H1 lo1 0 0 98 [(4, .int (zI (mo 4 (5 * k + 3)))), (3, .int (zI y)), (2, .int (zI a)), (0, .ref b), (1, .int (zI (5 * k)))] [.int (zI 4)]
  subst hQ; exact m_iret X hr hlk hM dX10_does_98 rfl rfl
set_option maxHeartbeats 4000000 in
set_option maxRecDepth 20000 in
theorem c_X10_does_ok_1 (l : Launch) (E : Nat → Nat → Nat) (b : Nat) (mo : Nat → Int → Int) (co : Nat → Int → Int) (k : Int) (a : Int) (y : Int) (f : Int) (z : Int) (hO : OkC co) (hR : RelC co (mo 1)) (hI : TsI co) (k0 : 0 ≤ k) (k1 : k < 61) (h0 : mo 4 (5 * k) = kcd 1) (ha : mo 4 (5 * k + 1) = a) (ga : Rg a) (hf : flC co 1 a y z = 0) : Mu l yX10_does cX10_does 5 (some .int) 5 0 0 E [(b, 5)] [.ref b, .int (zI (5 * k))] (fun H => PR E b (modelW E b mo) H) (fun rv H => ∃ g1 : Int → Int, ∃ q4 : Int, rv = some (.int (zI 0)) ∧ RelC (opC co 1 a y f z) g1 ∧ (∀ i : Int, 492 ≤ i → g1 i = mo 1 i) ∧ PR E b (modelW E b (updC (updC mo 0 (updZ (mo 0) 4 q4)) 1 g1)) H) := by
  refine Mu.start (own := RX10) rfl (by decide +kernel) (Nat.le_of_ble_eq_true rfl) ?_
  intro p e s m below meth cd args Q hQ X hr hlk hnm hM hPr
  have h_mo := hPr
  have hb0 := hO.b0
  have hbw := hO.bw
  have hr0 := hR.s0
  have hr1 := hR.s1
  refine v_aload_n X dX10_does_0 1 rfl 0 rfl ?_
  refine v_getf X hM.C h_mo.1 inX10 0 rfl rfl 14 (by decide) kf_X10_27 (fun _ h => h) rfl dX10_does_1 4 rfl ?_
  refine v_iload_n X dX10_does_4 5 rfl 1 rfl ?_
  refine v_iconst X dX10_does_5 6 rfl ?_
  refine v_iadd X dX10_does_6 7 rfl ?_
  refine v_iald X hM.C h_mo.1 4 rfl (by omega) (by omega) (by omega) dX10_does_7 8 rfl ?_
  show V p l e (rmL 5 0 0) s m args below meth cd Q 5 s.heap [] 0 0 8 [(0, .ref b), (1, .int (zI (5 * k)))] [.int (zI (mo 4 (5 * k + 1)))]
  refine V_S (st' := [.int (zI a)]) (by rw [ha]) ?_
  refine v_istore_n X dX10_does_8 9 rfl rfl (by decide) (L' := [(2, .int (zI a)), (0, .ref b), (1, .int (zI (5 * k)))]) rfl ?_
  refine v_aload_n X dX10_does_9 10 rfl 1 rfl ?_
  refine v_getf X hM.C h_mo.1 inX10 0 rfl rfl 14 (by decide) kf_X10_27 (fun _ h => h) rfl dX10_does_10 13 rfl ?_
  refine v_iload_n X dX10_does_13 14 rfl 2 rfl ?_
  refine v_iconst X dX10_does_14 15 rfl ?_
  refine v_iadd X dX10_does_15 16 rfl ?_
  refine v_iald X hM.C h_mo.1 4 rfl (by omega) (by omega) (by omega) dX10_does_16 17 rfl ?_
  show V p l e (rmL 5 0 0) s m args below meth cd Q 5 s.heap [] 0 0 17 [(2, .int (zI a)), (0, .ref b), (1, .int (zI (5 * k)))] [.int (zI (mo 4 (5 * k + 2)))]
  refine v_istore_n X dX10_does_17 18 rfl rfl (by decide) (L' := [(3, .int (zI (mo 4 (5 * k + 2)))), (2, .int (zI a)), (0, .ref b), (1, .int (zI (5 * k)))]) rfl ?_
  refine v_aload_n X dX10_does_18 19 rfl 2 rfl ?_
  refine v_getf X hM.C h_mo.1 inX10 0 rfl rfl 14 (by decide) kf_X10_27 (fun _ h => h) rfl dX10_does_19 22 rfl ?_
  refine v_iload_n X dX10_does_22 23 rfl 3 rfl ?_
  refine v_iconst X dX10_does_23 24 rfl ?_
  refine v_iadd X dX10_does_24 25 rfl ?_
  refine v_iald X hM.C h_mo.1 4 rfl (by omega) (by omega) (by omega) dX10_does_25 26 rfl ?_
  show V p l e (rmL 5 0 0) s m args below meth cd Q 5 s.heap [] 0 0 26 [(3, .int (zI (mo 4 (5 * k + 2)))), (2, .int (zI a)), (0, .ref b), (1, .int (zI (5 * k)))] [.int (zI (mo 4 (5 * k + 3)))]
  refine v_istore X dX10_does_26 28 rfl (by decide) (L' := [(4, .int (zI (mo 4 (5 * k + 3)))), (3, .int (zI (mo 4 (5 * k + 2)))), (2, .int (zI a)), (0, .ref b), (1, .int (zI (5 * k)))]) rfl ?_
  refine v_aload_n X dX10_does_28 29 rfl 3 rfl ?_
  refine v_getf X hM.C h_mo.1 inX10 0 rfl rfl 14 (by decide) kf_X10_27 (fun _ h => h) rfl dX10_does_29 32 rfl ?_
  refine v_iload_n X dX10_does_32 33 rfl 4 rfl ?_
  refine v_iald X hM.C h_mo.1 4 rfl (by omega) (by omega) (by omega) dX10_does_33 34 rfl ?_
  show V p l e (rmL 5 0 0) s m args below meth cd Q 5 s.heap [] 0 0 34 [(4, .int (zI (mo 4 (5 * k + 3)))), (3, .int (zI (mo 4 (5 * k + 2)))), (2, .int (zI a)), (0, .ref b), (1, .int (zI (5 * k)))] [.int (zI (mo 4 (5 * k)))]
  refine V_S (st' := [.int (zI 119)]) (by rw [h0]; rfl) ?_
  refine v_lookup X dX10_does_34 (by decide) (off := 65) (by decide) 99 (by decide) ?_
  refine v_aload_n X dX10_does_99 100 rfl 3 rfl ?_
  refine v_iload_n X dX10_does_100 101 rfl 2 rfl ?_
  have hb_1 := hO.b1 a
  refine v_muV X hM (h_mo.1) (c_X10_registers_ok l E b mo co a hO hR hI ga hf) kvX10_registers kiX10_registers kl_X10_89 (q0 := 0) rfl rfl (As := [.int (zI a)]) rfl rfl rfl dX10_does_101 104 rfl (k' := 0) (n' := 0) rfl rfl (fsI (fun q q1 q2 => (Or.inl (fsH (by omega) (by omega))))) h_mo (fun rv H2 lo2 hM hF hpo => ?_)
  obtain ⟨g1_3, rfl, hp_f_4, hp_f_5, hw_0⟩ := hpo
  have h_mo : PR E b (modelW E b (updC (updC mo 0 (updZ (mo 0) 4 (opV co 1 a 0 0 0))) 1 g1_3)) H2 := hw_0
  show V p l e (rmL 5 0 0) s m args below meth cd Q 5 H2 lo2 0 0 104 [(4, .int (zI (mo 4 (5 * k + 3)))), (3, .int (zI (mo 4 (5 * k + 2)))), (2, .int (zI a)), (0, .ref b), (1, .int (zI (5 * k)))] [.int (zI 0)]
  subst hQ; exact m_iret X hr hlk hM dX10_does_104 rfl ⟨g1_3, (opV co 1 a 0 0 0), rfl, (by exact hp_f_4), (by exact hp_f_5), h_mo⟩
set_option maxHeartbeats 4000000 in
set_option maxRecDepth 20000 in
theorem c_X10_does_f2_1 (l : Launch) (E : Nat → Nat → Nat) (b : Nat) (mo : Nat → Int → Int) (co : Nat → Int → Int) (k : Int) (a : Int) (y : Int) (f : Int) (z : Int) (hO : OkC co) (hR : RelC co (mo 1)) (hI : TsI co) (k0 : 0 ≤ k) (k1 : k < 61) (h0 : mo 4 (5 * k) = kcd 1) (ha : mo 4 (5 * k + 1) = a) (ga : Rg a) (hf : flC co 1 a y z = 2) : Mu l yX10_does cX10_does 5 (some .int) 5 0 0 E [] [.ref b, .int (zI (5 * k))] (fun H => PR E b (modelW E b mo) H) (fun rv H => rv = some (.int (zI 2))) := by
  refine Mu.start (own := RX10) rfl (by decide +kernel) (Nat.le_of_ble_eq_true rfl) ?_
  intro p e s m below meth cd args Q hQ X hr hlk hnm hM hPr
  have h_mo := hPr
  have hb0 := hO.b0
  have hbw := hO.bw
  have hr0 := hR.s0
  have hr1 := hR.s1
  refine v_aload_n X dX10_does_0 1 rfl 0 rfl ?_
  refine v_getf X hM.C h_mo.1 inX10 0 rfl rfl 14 (by decide) kf_X10_27 (fun _ h => h) rfl dX10_does_1 4 rfl ?_
  refine v_iload_n X dX10_does_4 5 rfl 1 rfl ?_
  refine v_iconst X dX10_does_5 6 rfl ?_
  refine v_iadd X dX10_does_6 7 rfl ?_
  refine v_iald X hM.C h_mo.1 4 rfl (by omega) (by omega) (by omega) dX10_does_7 8 rfl ?_
  show V p l e (rmL 5 0 0) s m args below meth cd Q 5 s.heap [] 0 0 8 [(0, .ref b), (1, .int (zI (5 * k)))] [.int (zI (mo 4 (5 * k + 1)))]
  refine V_S (st' := [.int (zI a)]) (by rw [ha]) ?_
  refine v_istore_n X dX10_does_8 9 rfl rfl (by decide) (L' := [(2, .int (zI a)), (0, .ref b), (1, .int (zI (5 * k)))]) rfl ?_
  refine v_aload_n X dX10_does_9 10 rfl 1 rfl ?_
  refine v_getf X hM.C h_mo.1 inX10 0 rfl rfl 14 (by decide) kf_X10_27 (fun _ h => h) rfl dX10_does_10 13 rfl ?_
  refine v_iload_n X dX10_does_13 14 rfl 2 rfl ?_
  refine v_iconst X dX10_does_14 15 rfl ?_
  refine v_iadd X dX10_does_15 16 rfl ?_
  refine v_iald X hM.C h_mo.1 4 rfl (by omega) (by omega) (by omega) dX10_does_16 17 rfl ?_
  show V p l e (rmL 5 0 0) s m args below meth cd Q 5 s.heap [] 0 0 17 [(2, .int (zI a)), (0, .ref b), (1, .int (zI (5 * k)))] [.int (zI (mo 4 (5 * k + 2)))]
  refine v_istore_n X dX10_does_17 18 rfl rfl (by decide) (L' := [(3, .int (zI (mo 4 (5 * k + 2)))), (2, .int (zI a)), (0, .ref b), (1, .int (zI (5 * k)))]) rfl ?_
  refine v_aload_n X dX10_does_18 19 rfl 2 rfl ?_
  refine v_getf X hM.C h_mo.1 inX10 0 rfl rfl 14 (by decide) kf_X10_27 (fun _ h => h) rfl dX10_does_19 22 rfl ?_
  refine v_iload_n X dX10_does_22 23 rfl 3 rfl ?_
  refine v_iconst X dX10_does_23 24 rfl ?_
  refine v_iadd X dX10_does_24 25 rfl ?_
  refine v_iald X hM.C h_mo.1 4 rfl (by omega) (by omega) (by omega) dX10_does_25 26 rfl ?_
  show V p l e (rmL 5 0 0) s m args below meth cd Q 5 s.heap [] 0 0 26 [(3, .int (zI (mo 4 (5 * k + 2)))), (2, .int (zI a)), (0, .ref b), (1, .int (zI (5 * k)))] [.int (zI (mo 4 (5 * k + 3)))]
  refine v_istore X dX10_does_26 28 rfl (by decide) (L' := [(4, .int (zI (mo 4 (5 * k + 3)))), (3, .int (zI (mo 4 (5 * k + 2)))), (2, .int (zI a)), (0, .ref b), (1, .int (zI (5 * k)))]) rfl ?_
  refine v_aload_n X dX10_does_28 29 rfl 3 rfl ?_
  refine v_getf X hM.C h_mo.1 inX10 0 rfl rfl 14 (by decide) kf_X10_27 (fun _ h => h) rfl dX10_does_29 32 rfl ?_
  refine v_iload_n X dX10_does_32 33 rfl 4 rfl ?_
  refine v_iald X hM.C h_mo.1 4 rfl (by omega) (by omega) (by omega) dX10_does_33 34 rfl ?_
  show V p l e (rmL 5 0 0) s m args below meth cd Q 5 s.heap [] 0 0 34 [(4, .int (zI (mo 4 (5 * k + 3)))), (3, .int (zI (mo 4 (5 * k + 2)))), (2, .int (zI a)), (0, .ref b), (1, .int (zI (5 * k)))] [.int (zI (mo 4 (5 * k)))]
  refine V_S (st' := [.int (zI 119)]) (by rw [h0]; rfl) ?_
  refine v_lookup X dX10_does_34 (by decide) (off := 65) (by decide) 99 (by decide) ?_
  refine v_aload_n X dX10_does_99 100 rfl 3 rfl ?_
  refine v_iload_n X dX10_does_100 101 rfl 2 rfl ?_
  have hb_1 := hO.b1 a
  refine v_muV X hM (h_mo.1) (c_X10_registers_f2 l E b mo co a hO hR hI ga hf) kvX10_registers kiX10_registers kl_X10_89 (q0 := 0) rfl rfl (As := [.int (zI a)]) rfl rfl rfl dX10_does_101 104 rfl (k' := 0) (n' := 0) rfl rfl (fun q hq => hq.elim) h_mo (fun rv H2 lo2 hM hF hpo => ?_)
  subst hpo
  replace h_mo := h_mo.kept hF 5 rfl (fun q _ _ h => h.elim)
  show V p l e (rmL 5 0 0) s m args below meth cd Q 5 H2 lo2 0 0 104 [(4, .int (zI (mo 4 (5 * k + 3)))), (3, .int (zI (mo 4 (5 * k + 2)))), (2, .int (zI a)), (0, .ref b), (1, .int (zI (5 * k)))] [.int (zI 2)]
  subst hQ; exact m_iret X hr hlk hM dX10_does_104 rfl rfl
set_option maxHeartbeats 4000000 in
set_option maxRecDepth 20000 in
theorem c_X10_does_f4_1 (l : Launch) (E : Nat → Nat → Nat) (b : Nat) (mo : Nat → Int → Int) (co : Nat → Int → Int) (k : Int) (a : Int) (y : Int) (f : Int) (z : Int) (hO : OkC co) (hR : RelC co (mo 1)) (hI : TsI co) (k0 : 0 ≤ k) (k1 : k < 61) (h0 : mo 4 (5 * k) = kcd 1) (ha : mo 4 (5 * k + 1) = a) (ga : Rg a) (hf : flC co 1 a y z = 4) : Mu l yX10_does cX10_does 5 (some .int) 5 0 0 E [] [.ref b, .int (zI (5 * k))] (fun H => PR E b (modelW E b mo) H) (fun rv H => rv = some (.int (zI 4))) := by
  refine Mu.start (own := RX10) rfl (by decide +kernel) (Nat.le_of_ble_eq_true rfl) ?_
  intro p e s m below meth cd args Q hQ X hr hlk hnm hM hPr
  have h_mo := hPr
  have hb0 := hO.b0
  have hbw := hO.bw
  have hr0 := hR.s0
  have hr1 := hR.s1
  refine v_aload_n X dX10_does_0 1 rfl 0 rfl ?_
  refine v_getf X hM.C h_mo.1 inX10 0 rfl rfl 14 (by decide) kf_X10_27 (fun _ h => h) rfl dX10_does_1 4 rfl ?_
  refine v_iload_n X dX10_does_4 5 rfl 1 rfl ?_
  refine v_iconst X dX10_does_5 6 rfl ?_
  refine v_iadd X dX10_does_6 7 rfl ?_
  refine v_iald X hM.C h_mo.1 4 rfl (by omega) (by omega) (by omega) dX10_does_7 8 rfl ?_
  show V p l e (rmL 5 0 0) s m args below meth cd Q 5 s.heap [] 0 0 8 [(0, .ref b), (1, .int (zI (5 * k)))] [.int (zI (mo 4 (5 * k + 1)))]
  refine V_S (st' := [.int (zI a)]) (by rw [ha]) ?_
  refine v_istore_n X dX10_does_8 9 rfl rfl (by decide) (L' := [(2, .int (zI a)), (0, .ref b), (1, .int (zI (5 * k)))]) rfl ?_
  refine v_aload_n X dX10_does_9 10 rfl 1 rfl ?_
  refine v_getf X hM.C h_mo.1 inX10 0 rfl rfl 14 (by decide) kf_X10_27 (fun _ h => h) rfl dX10_does_10 13 rfl ?_
  refine v_iload_n X dX10_does_13 14 rfl 2 rfl ?_
  refine v_iconst X dX10_does_14 15 rfl ?_
  refine v_iadd X dX10_does_15 16 rfl ?_
  refine v_iald X hM.C h_mo.1 4 rfl (by omega) (by omega) (by omega) dX10_does_16 17 rfl ?_
  show V p l e (rmL 5 0 0) s m args below meth cd Q 5 s.heap [] 0 0 17 [(2, .int (zI a)), (0, .ref b), (1, .int (zI (5 * k)))] [.int (zI (mo 4 (5 * k + 2)))]
  refine v_istore_n X dX10_does_17 18 rfl rfl (by decide) (L' := [(3, .int (zI (mo 4 (5 * k + 2)))), (2, .int (zI a)), (0, .ref b), (1, .int (zI (5 * k)))]) rfl ?_
  refine v_aload_n X dX10_does_18 19 rfl 2 rfl ?_
  refine v_getf X hM.C h_mo.1 inX10 0 rfl rfl 14 (by decide) kf_X10_27 (fun _ h => h) rfl dX10_does_19 22 rfl ?_
  refine v_iload_n X dX10_does_22 23 rfl 3 rfl ?_
  refine v_iconst X dX10_does_23 24 rfl ?_
  refine v_iadd X dX10_does_24 25 rfl ?_
  refine v_iald X hM.C h_mo.1 4 rfl (by omega) (by omega) (by omega) dX10_does_25 26 rfl ?_
  show V p l e (rmL 5 0 0) s m args below meth cd Q 5 s.heap [] 0 0 26 [(3, .int (zI (mo 4 (5 * k + 2)))), (2, .int (zI a)), (0, .ref b), (1, .int (zI (5 * k)))] [.int (zI (mo 4 (5 * k + 3)))]
  refine v_istore X dX10_does_26 28 rfl (by decide) (L' := [(4, .int (zI (mo 4 (5 * k + 3)))), (3, .int (zI (mo 4 (5 * k + 2)))), (2, .int (zI a)), (0, .ref b), (1, .int (zI (5 * k)))]) rfl ?_
  refine v_aload_n X dX10_does_28 29 rfl 3 rfl ?_
  refine v_getf X hM.C h_mo.1 inX10 0 rfl rfl 14 (by decide) kf_X10_27 (fun _ h => h) rfl dX10_does_29 32 rfl ?_
  refine v_iload_n X dX10_does_32 33 rfl 4 rfl ?_
  refine v_iald X hM.C h_mo.1 4 rfl (by omega) (by omega) (by omega) dX10_does_33 34 rfl ?_
  show V p l e (rmL 5 0 0) s m args below meth cd Q 5 s.heap [] 0 0 34 [(4, .int (zI (mo 4 (5 * k + 3)))), (3, .int (zI (mo 4 (5 * k + 2)))), (2, .int (zI a)), (0, .ref b), (1, .int (zI (5 * k)))] [.int (zI (mo 4 (5 * k)))]
  refine V_S (st' := [.int (zI 119)]) (by rw [h0]; rfl) ?_
  refine v_lookup X dX10_does_34 (by decide) (off := 65) (by decide) 99 (by decide) ?_
  refine v_aload_n X dX10_does_99 100 rfl 3 rfl ?_
  refine v_iload_n X dX10_does_100 101 rfl 2 rfl ?_
  have hb_1 := hO.b1 a
  refine v_muV X hM (h_mo.1) (c_X10_registers_f4 l E b mo co a hO hR hI ga hf) kvX10_registers kiX10_registers kl_X10_89 (q0 := 0) rfl rfl (As := [.int (zI a)]) rfl rfl rfl dX10_does_101 104 rfl (k' := 0) (n' := 0) rfl rfl (fun q hq => hq.elim) h_mo (fun rv H2 lo2 hM hF hpo => ?_)
  subst hpo
  replace h_mo := h_mo.kept hF 5 rfl (fun q _ _ h => h.elim)
  show V p l e (rmL 5 0 0) s m args below meth cd Q 5 H2 lo2 0 0 104 [(4, .int (zI (mo 4 (5 * k + 3)))), (3, .int (zI (mo 4 (5 * k + 2)))), (2, .int (zI a)), (0, .ref b), (1, .int (zI (5 * k)))] [.int (zI 4)]
  subst hQ; exact m_iret X hr hlk hM dX10_does_104 rfl rfl
set_option maxHeartbeats 4000000 in
set_option maxRecDepth 20000 in
theorem c_X10_does_ok_2 (l : Launch) (E : Nat → Nat → Nat) (b : Nat) (mo : Nat → Int → Int) (co : Nat → Int → Int) (k : Int) (a : Int) (y : Int) (f : Int) (z : Int) (hO : OkC co) (hR : RelC co (mo 1)) (hI : TsI co) (k0 : 0 ≤ k) (k1 : k < 61) (h0 : mo 4 (5 * k) = kcd 2) (ha : mo 4 (5 * k + 1) = a) (ga : Rg a) (hy : mo 4 (5 * k + 2) = y) (gy : Rg y) (hfl : mo 4 (5 * k + 3) = f) (gf : 0 ≤ f ∧ f ≤ 1) (hz : mo 4 (5 * k + 4) = z) (gz : Rg z) (hf : flC co 2 a y z = 0) : Mu l yX10_does cX10_does 5 (some .int) 5 0 0 E [(b, 5)] [.ref b, .int (zI (5 * k))] (fun H => PR E b (modelW E b mo) H) (fun rv H => ∃ g1 : Int → Int, ∃ q4 : Int, rv = some (.int (zI 0)) ∧ RelC (opC co 2 a y f z) g1 ∧ (∀ i : Int, 492 ≤ i → g1 i = mo 1 i) ∧ PR E b (modelW E b (updC (updC mo 0 (updZ (mo 0) 4 q4)) 1 g1)) H) := by
  refine Mu.start (own := RX10) rfl (by decide +kernel) (Nat.le_of_ble_eq_true rfl) ?_
  intro p e s m below meth cd args Q hQ X hr hlk hnm hM hPr
  have h_mo := hPr
  have hb0 := hO.b0
  have hbw := hO.bw
  have hr0 := hR.s0
  have hr1 := hR.s1
  refine v_aload_n X dX10_does_0 1 rfl 0 rfl ?_
  refine v_getf X hM.C h_mo.1 inX10 0 rfl rfl 14 (by decide) kf_X10_27 (fun _ h => h) rfl dX10_does_1 4 rfl ?_
  refine v_iload_n X dX10_does_4 5 rfl 1 rfl ?_
  refine v_iconst X dX10_does_5 6 rfl ?_
  refine v_iadd X dX10_does_6 7 rfl ?_
  refine v_iald X hM.C h_mo.1 4 rfl (by omega) (by omega) (by omega) dX10_does_7 8 rfl ?_
  show V p l e (rmL 5 0 0) s m args below meth cd Q 5 s.heap [] 0 0 8 [(0, .ref b), (1, .int (zI (5 * k)))] [.int (zI (mo 4 (5 * k + 1)))]
  refine V_S (st' := [.int (zI a)]) (by rw [ha]) ?_
  refine v_istore_n X dX10_does_8 9 rfl rfl (by decide) (L' := [(2, .int (zI a)), (0, .ref b), (1, .int (zI (5 * k)))]) rfl ?_
  refine v_aload_n X dX10_does_9 10 rfl 1 rfl ?_
  refine v_getf X hM.C h_mo.1 inX10 0 rfl rfl 14 (by decide) kf_X10_27 (fun _ h => h) rfl dX10_does_10 13 rfl ?_
  refine v_iload_n X dX10_does_13 14 rfl 2 rfl ?_
  refine v_iconst X dX10_does_14 15 rfl ?_
  refine v_iadd X dX10_does_15 16 rfl ?_
  refine v_iald X hM.C h_mo.1 4 rfl (by omega) (by omega) (by omega) dX10_does_16 17 rfl ?_
  show V p l e (rmL 5 0 0) s m args below meth cd Q 5 s.heap [] 0 0 17 [(2, .int (zI a)), (0, .ref b), (1, .int (zI (5 * k)))] [.int (zI (mo 4 (5 * k + 2)))]
  refine V_S (st' := [.int (zI y)]) (by rw [hy]) ?_
  refine v_istore_n X dX10_does_17 18 rfl rfl (by decide) (L' := [(3, .int (zI y)), (2, .int (zI a)), (0, .ref b), (1, .int (zI (5 * k)))]) rfl ?_
  refine v_aload_n X dX10_does_18 19 rfl 2 rfl ?_
  refine v_getf X hM.C h_mo.1 inX10 0 rfl rfl 14 (by decide) kf_X10_27 (fun _ h => h) rfl dX10_does_19 22 rfl ?_
  refine v_iload_n X dX10_does_22 23 rfl 3 rfl ?_
  refine v_iconst X dX10_does_23 24 rfl ?_
  refine v_iadd X dX10_does_24 25 rfl ?_
  refine v_iald X hM.C h_mo.1 4 rfl (by omega) (by omega) (by omega) dX10_does_25 26 rfl ?_
  show V p l e (rmL 5 0 0) s m args below meth cd Q 5 s.heap [] 0 0 26 [(3, .int (zI y)), (2, .int (zI a)), (0, .ref b), (1, .int (zI (5 * k)))] [.int (zI (mo 4 (5 * k + 3)))]
  refine V_S (st' := [.int (zI f)]) (by rw [hfl]) ?_
  refine v_istore X dX10_does_26 28 rfl (by decide) (L' := [(4, .int (zI f)), (3, .int (zI y)), (2, .int (zI a)), (0, .ref b), (1, .int (zI (5 * k)))]) rfl ?_
  refine v_aload_n X dX10_does_28 29 rfl 3 rfl ?_
  refine v_getf X hM.C h_mo.1 inX10 0 rfl rfl 14 (by decide) kf_X10_27 (fun _ h => h) rfl dX10_does_29 32 rfl ?_
  refine v_iload_n X dX10_does_32 33 rfl 4 rfl ?_
  refine v_iald X hM.C h_mo.1 4 rfl (by omega) (by omega) (by omega) dX10_does_33 34 rfl ?_
  show V p l e (rmL 5 0 0) s m args below meth cd Q 5 s.heap [] 0 0 34 [(4, .int (zI f)), (3, .int (zI y)), (2, .int (zI a)), (0, .ref b), (1, .int (zI (5 * k)))] [.int (zI (mo 4 (5 * k)))]
  refine V_S (st' := [.int (zI 116)]) (by rw [h0]; rfl) ?_
  refine v_lookup X dX10_does_34 (by decide) (off := 71) (by decide) 105 (by decide) ?_
  refine v_aload_n X dX10_does_105 106 rfl 3 rfl ?_
  refine v_iload_n X dX10_does_106 107 rfl 2 rfl ?_
  refine v_iload_n X dX10_does_107 108 rfl 1 rfl ?_
  refine v_iload X dX10_does_108 110 rfl 0 rfl ?_
  refine v_aload_n X dX10_does_110 111 rfl 3 rfl ?_
  refine v_getf X hM.C h_mo.1 inX10 0 rfl rfl 14 (by decide) kf_X10_27 (fun _ h => h) rfl dX10_does_111 114 rfl ?_
  refine v_iload_n X dX10_does_114 115 rfl 4 rfl ?_
  refine v_iconst X dX10_does_115 116 rfl ?_
  refine v_iadd X dX10_does_116 117 rfl ?_
  refine v_iald X hM.C h_mo.1 4 rfl (by omega) (by omega) (by omega) dX10_does_117 118 rfl ?_
  show V p l e (rmL 5 0 0) s m args below meth cd Q 5 s.heap [] 0 0 118 [(4, .int (zI f)), (3, .int (zI y)), (2, .int (zI a)), (0, .ref b), (1, .int (zI (5 * k)))] [.int (zI (mo 4 (5 * k + 4))), .int (zI f), .int (zI y), .int (zI a), .ref b]
  refine V_S (st' := [.int (zI z), .int (zI f), .int (zI y), .int (zI a), .ref b]) (by rw [hz]) ?_
  refine v_muV X hM (h_mo.1) (c_X10_testifies_ok l E b mo co a y f z hO hR hI ga gy gz gf hf) kvX10_testifies kiX10_testifies kl_X10_101 (q0 := 0) rfl rfl (As := [.int (zI a), .int (zI y), .int (zI f), .int (zI z)]) rfl rfl rfl dX10_does_118 121 rfl (k' := 0) (n' := 0) rfl rfl (fsI (fun q q1 q2 => (Or.inl (fsH (by omega) (by omega))))) h_mo (fun rv H1 lo1 hM hF hpo => ?_)
  obtain ⟨g1_2, rfl, hp_f_3, hp_f_4, hw_0⟩ := hpo
  have h_mo : PR E b (modelW E b (updC (updC mo 0 (updZ (mo 0) 4 (opV co 2 a y f z))) 1 g1_2)) H1 := hw_0
  show V p l e (rmL 5 0 0) s m args below meth cd Q 5 H1 lo1 0 0 121 [(4, .int (zI f)), (3, .int (zI y)), (2, .int (zI a)), (0, .ref b), (1, .int (zI (5 * k)))] [.int (zI 0)]
  subst hQ; exact m_iret X hr hlk hM dX10_does_121 rfl ⟨g1_2, (opV co 2 a y f z), rfl, (by exact hp_f_3), (by exact hp_f_4), h_mo⟩
set_option maxHeartbeats 4000000 in
set_option maxRecDepth 20000 in
theorem c_X10_does_f1_2 (l : Launch) (E : Nat → Nat → Nat) (b : Nat) (mo : Nat → Int → Int) (co : Nat → Int → Int) (k : Int) (a : Int) (y : Int) (f : Int) (z : Int) (hO : OkC co) (hR : RelC co (mo 1)) (hI : TsI co) (k0 : 0 ≤ k) (k1 : k < 61) (h0 : mo 4 (5 * k) = kcd 2) (ha : mo 4 (5 * k + 1) = a) (ga : Rg a) (hy : mo 4 (5 * k + 2) = y) (gy : Rg y) (hfl : mo 4 (5 * k + 3) = f) (gf : 0 ≤ f ∧ f ≤ 1) (hz : mo 4 (5 * k + 4) = z) (gz : Rg z) (hf : flC co 2 a y z = 1) : Mu l yX10_does cX10_does 5 (some .int) 5 0 0 E [] [.ref b, .int (zI (5 * k))] (fun H => PR E b (modelW E b mo) H) (fun rv H => rv = some (.int (zI 1))) := by
  refine Mu.start (own := RX10) rfl (by decide +kernel) (Nat.le_of_ble_eq_true rfl) ?_
  intro p e s m below meth cd args Q hQ X hr hlk hnm hM hPr
  have h_mo := hPr
  have hb0 := hO.b0
  have hbw := hO.bw
  have hr0 := hR.s0
  have hr1 := hR.s1
  refine v_aload_n X dX10_does_0 1 rfl 0 rfl ?_
  refine v_getf X hM.C h_mo.1 inX10 0 rfl rfl 14 (by decide) kf_X10_27 (fun _ h => h) rfl dX10_does_1 4 rfl ?_
  refine v_iload_n X dX10_does_4 5 rfl 1 rfl ?_
  refine v_iconst X dX10_does_5 6 rfl ?_
  refine v_iadd X dX10_does_6 7 rfl ?_
  refine v_iald X hM.C h_mo.1 4 rfl (by omega) (by omega) (by omega) dX10_does_7 8 rfl ?_
  show V p l e (rmL 5 0 0) s m args below meth cd Q 5 s.heap [] 0 0 8 [(0, .ref b), (1, .int (zI (5 * k)))] [.int (zI (mo 4 (5 * k + 1)))]
  refine V_S (st' := [.int (zI a)]) (by rw [ha]) ?_
  refine v_istore_n X dX10_does_8 9 rfl rfl (by decide) (L' := [(2, .int (zI a)), (0, .ref b), (1, .int (zI (5 * k)))]) rfl ?_
  refine v_aload_n X dX10_does_9 10 rfl 1 rfl ?_
  refine v_getf X hM.C h_mo.1 inX10 0 rfl rfl 14 (by decide) kf_X10_27 (fun _ h => h) rfl dX10_does_10 13 rfl ?_
  refine v_iload_n X dX10_does_13 14 rfl 2 rfl ?_
  refine v_iconst X dX10_does_14 15 rfl ?_
  refine v_iadd X dX10_does_15 16 rfl ?_
  refine v_iald X hM.C h_mo.1 4 rfl (by omega) (by omega) (by omega) dX10_does_16 17 rfl ?_
  show V p l e (rmL 5 0 0) s m args below meth cd Q 5 s.heap [] 0 0 17 [(2, .int (zI a)), (0, .ref b), (1, .int (zI (5 * k)))] [.int (zI (mo 4 (5 * k + 2)))]
  refine V_S (st' := [.int (zI y)]) (by rw [hy]) ?_
  refine v_istore_n X dX10_does_17 18 rfl rfl (by decide) (L' := [(3, .int (zI y)), (2, .int (zI a)), (0, .ref b), (1, .int (zI (5 * k)))]) rfl ?_
  refine v_aload_n X dX10_does_18 19 rfl 2 rfl ?_
  refine v_getf X hM.C h_mo.1 inX10 0 rfl rfl 14 (by decide) kf_X10_27 (fun _ h => h) rfl dX10_does_19 22 rfl ?_
  refine v_iload_n X dX10_does_22 23 rfl 3 rfl ?_
  refine v_iconst X dX10_does_23 24 rfl ?_
  refine v_iadd X dX10_does_24 25 rfl ?_
  refine v_iald X hM.C h_mo.1 4 rfl (by omega) (by omega) (by omega) dX10_does_25 26 rfl ?_
  show V p l e (rmL 5 0 0) s m args below meth cd Q 5 s.heap [] 0 0 26 [(3, .int (zI y)), (2, .int (zI a)), (0, .ref b), (1, .int (zI (5 * k)))] [.int (zI (mo 4 (5 * k + 3)))]
  refine V_S (st' := [.int (zI f)]) (by rw [hfl]) ?_
  refine v_istore X dX10_does_26 28 rfl (by decide) (L' := [(4, .int (zI f)), (3, .int (zI y)), (2, .int (zI a)), (0, .ref b), (1, .int (zI (5 * k)))]) rfl ?_
  refine v_aload_n X dX10_does_28 29 rfl 3 rfl ?_
  refine v_getf X hM.C h_mo.1 inX10 0 rfl rfl 14 (by decide) kf_X10_27 (fun _ h => h) rfl dX10_does_29 32 rfl ?_
  refine v_iload_n X dX10_does_32 33 rfl 4 rfl ?_
  refine v_iald X hM.C h_mo.1 4 rfl (by omega) (by omega) (by omega) dX10_does_33 34 rfl ?_
  show V p l e (rmL 5 0 0) s m args below meth cd Q 5 s.heap [] 0 0 34 [(4, .int (zI f)), (3, .int (zI y)), (2, .int (zI a)), (0, .ref b), (1, .int (zI (5 * k)))] [.int (zI (mo 4 (5 * k)))]
  refine V_S (st' := [.int (zI 116)]) (by rw [h0]; rfl) ?_
  refine v_lookup X dX10_does_34 (by decide) (off := 71) (by decide) 105 (by decide) ?_
  refine v_aload_n X dX10_does_105 106 rfl 3 rfl ?_
  refine v_iload_n X dX10_does_106 107 rfl 2 rfl ?_
  refine v_iload_n X dX10_does_107 108 rfl 1 rfl ?_
  refine v_iload X dX10_does_108 110 rfl 0 rfl ?_
  refine v_aload_n X dX10_does_110 111 rfl 3 rfl ?_
  refine v_getf X hM.C h_mo.1 inX10 0 rfl rfl 14 (by decide) kf_X10_27 (fun _ h => h) rfl dX10_does_111 114 rfl ?_
  refine v_iload_n X dX10_does_114 115 rfl 4 rfl ?_
  refine v_iconst X dX10_does_115 116 rfl ?_
  refine v_iadd X dX10_does_116 117 rfl ?_
  refine v_iald X hM.C h_mo.1 4 rfl (by omega) (by omega) (by omega) dX10_does_117 118 rfl ?_
  show V p l e (rmL 5 0 0) s m args below meth cd Q 5 s.heap [] 0 0 118 [(4, .int (zI f)), (3, .int (zI y)), (2, .int (zI a)), (0, .ref b), (1, .int (zI (5 * k)))] [.int (zI (mo 4 (5 * k + 4))), .int (zI f), .int (zI y), .int (zI a), .ref b]
  refine V_S (st' := [.int (zI z), .int (zI f), .int (zI y), .int (zI a), .ref b]) (by rw [hz]) ?_
  refine v_muV X hM (h_mo.1) (c_X10_testifies_f1 l E b mo co a y f z hO hR hI ga gy (by omega) gz hf) kvX10_testifies kiX10_testifies kl_X10_101 (q0 := 0) rfl rfl (As := [.int (zI a), .int (zI y), .int (zI f), .int (zI z)]) rfl rfl rfl dX10_does_118 121 rfl (k' := 0) (n' := 0) rfl rfl (fun q hq => hq.elim) h_mo (fun rv H1 lo1 hM hF hpo => ?_)
  subst hpo
  replace h_mo := h_mo.kept hF 5 rfl (fun q _ _ h => h.elim)
  show V p l e (rmL 5 0 0) s m args below meth cd Q 5 H1 lo1 0 0 121 [(4, .int (zI f)), (3, .int (zI y)), (2, .int (zI a)), (0, .ref b), (1, .int (zI (5 * k)))] [.int (zI 1)]
  subst hQ; exact m_iret X hr hlk hM dX10_does_121 rfl rfl
set_option maxHeartbeats 4000000 in
set_option maxRecDepth 20000 in
theorem c_X10_does_f2_2 (l : Launch) (E : Nat → Nat → Nat) (b : Nat) (mo : Nat → Int → Int) (co : Nat → Int → Int) (k : Int) (a : Int) (y : Int) (f : Int) (z : Int) (hO : OkC co) (hR : RelC co (mo 1)) (hI : TsI co) (k0 : 0 ≤ k) (k1 : k < 61) (h0 : mo 4 (5 * k) = kcd 2) (ha : mo 4 (5 * k + 1) = a) (ga : Rg a) (hy : mo 4 (5 * k + 2) = y) (gy : Rg y) (hfl : mo 4 (5 * k + 3) = f) (gf : 0 ≤ f ∧ f ≤ 1) (hz : mo 4 (5 * k + 4) = z) (gz : Rg z) (hf : flC co 2 a y z = 2) : Mu l yX10_does cX10_does 5 (some .int) 5 0 0 E [] [.ref b, .int (zI (5 * k))] (fun H => PR E b (modelW E b mo) H) (fun rv H => rv = some (.int (zI 2))) := by
  refine Mu.start (own := RX10) rfl (by decide +kernel) (Nat.le_of_ble_eq_true rfl) ?_
  intro p e s m below meth cd args Q hQ X hr hlk hnm hM hPr
  have h_mo := hPr
  have hb0 := hO.b0
  have hbw := hO.bw
  have hr0 := hR.s0
  have hr1 := hR.s1
  refine v_aload_n X dX10_does_0 1 rfl 0 rfl ?_
  refine v_getf X hM.C h_mo.1 inX10 0 rfl rfl 14 (by decide) kf_X10_27 (fun _ h => h) rfl dX10_does_1 4 rfl ?_
  refine v_iload_n X dX10_does_4 5 rfl 1 rfl ?_
  refine v_iconst X dX10_does_5 6 rfl ?_
  refine v_iadd X dX10_does_6 7 rfl ?_
  refine v_iald X hM.C h_mo.1 4 rfl (by omega) (by omega) (by omega) dX10_does_7 8 rfl ?_
  show V p l e (rmL 5 0 0) s m args below meth cd Q 5 s.heap [] 0 0 8 [(0, .ref b), (1, .int (zI (5 * k)))] [.int (zI (mo 4 (5 * k + 1)))]
  refine V_S (st' := [.int (zI a)]) (by rw [ha]) ?_
  refine v_istore_n X dX10_does_8 9 rfl rfl (by decide) (L' := [(2, .int (zI a)), (0, .ref b), (1, .int (zI (5 * k)))]) rfl ?_
  refine v_aload_n X dX10_does_9 10 rfl 1 rfl ?_
  refine v_getf X hM.C h_mo.1 inX10 0 rfl rfl 14 (by decide) kf_X10_27 (fun _ h => h) rfl dX10_does_10 13 rfl ?_
  refine v_iload_n X dX10_does_13 14 rfl 2 rfl ?_
  refine v_iconst X dX10_does_14 15 rfl ?_
  refine v_iadd X dX10_does_15 16 rfl ?_
  refine v_iald X hM.C h_mo.1 4 rfl (by omega) (by omega) (by omega) dX10_does_16 17 rfl ?_
  show V p l e (rmL 5 0 0) s m args below meth cd Q 5 s.heap [] 0 0 17 [(2, .int (zI a)), (0, .ref b), (1, .int (zI (5 * k)))] [.int (zI (mo 4 (5 * k + 2)))]
  refine V_S (st' := [.int (zI y)]) (by rw [hy]) ?_
  refine v_istore_n X dX10_does_17 18 rfl rfl (by decide) (L' := [(3, .int (zI y)), (2, .int (zI a)), (0, .ref b), (1, .int (zI (5 * k)))]) rfl ?_
  refine v_aload_n X dX10_does_18 19 rfl 2 rfl ?_
  refine v_getf X hM.C h_mo.1 inX10 0 rfl rfl 14 (by decide) kf_X10_27 (fun _ h => h) rfl dX10_does_19 22 rfl ?_
  refine v_iload_n X dX10_does_22 23 rfl 3 rfl ?_
  refine v_iconst X dX10_does_23 24 rfl ?_
  refine v_iadd X dX10_does_24 25 rfl ?_
  refine v_iald X hM.C h_mo.1 4 rfl (by omega) (by omega) (by omega) dX10_does_25 26 rfl ?_
  show V p l e (rmL 5 0 0) s m args below meth cd Q 5 s.heap [] 0 0 26 [(3, .int (zI y)), (2, .int (zI a)), (0, .ref b), (1, .int (zI (5 * k)))] [.int (zI (mo 4 (5 * k + 3)))]
  refine V_S (st' := [.int (zI f)]) (by rw [hfl]) ?_
  refine v_istore X dX10_does_26 28 rfl (by decide) (L' := [(4, .int (zI f)), (3, .int (zI y)), (2, .int (zI a)), (0, .ref b), (1, .int (zI (5 * k)))]) rfl ?_
  refine v_aload_n X dX10_does_28 29 rfl 3 rfl ?_
  refine v_getf X hM.C h_mo.1 inX10 0 rfl rfl 14 (by decide) kf_X10_27 (fun _ h => h) rfl dX10_does_29 32 rfl ?_
  refine v_iload_n X dX10_does_32 33 rfl 4 rfl ?_
  refine v_iald X hM.C h_mo.1 4 rfl (by omega) (by omega) (by omega) dX10_does_33 34 rfl ?_
  show V p l e (rmL 5 0 0) s m args below meth cd Q 5 s.heap [] 0 0 34 [(4, .int (zI f)), (3, .int (zI y)), (2, .int (zI a)), (0, .ref b), (1, .int (zI (5 * k)))] [.int (zI (mo 4 (5 * k)))]
  refine V_S (st' := [.int (zI 116)]) (by rw [h0]; rfl) ?_
  refine v_lookup X dX10_does_34 (by decide) (off := 71) (by decide) 105 (by decide) ?_
  refine v_aload_n X dX10_does_105 106 rfl 3 rfl ?_
  refine v_iload_n X dX10_does_106 107 rfl 2 rfl ?_
  refine v_iload_n X dX10_does_107 108 rfl 1 rfl ?_
  refine v_iload X dX10_does_108 110 rfl 0 rfl ?_
  refine v_aload_n X dX10_does_110 111 rfl 3 rfl ?_
  refine v_getf X hM.C h_mo.1 inX10 0 rfl rfl 14 (by decide) kf_X10_27 (fun _ h => h) rfl dX10_does_111 114 rfl ?_
  refine v_iload_n X dX10_does_114 115 rfl 4 rfl ?_
  refine v_iconst X dX10_does_115 116 rfl ?_
  refine v_iadd X dX10_does_116 117 rfl ?_
  refine v_iald X hM.C h_mo.1 4 rfl (by omega) (by omega) (by omega) dX10_does_117 118 rfl ?_
  show V p l e (rmL 5 0 0) s m args below meth cd Q 5 s.heap [] 0 0 118 [(4, .int (zI f)), (3, .int (zI y)), (2, .int (zI a)), (0, .ref b), (1, .int (zI (5 * k)))] [.int (zI (mo 4 (5 * k + 4))), .int (zI f), .int (zI y), .int (zI a), .ref b]
  refine V_S (st' := [.int (zI z), .int (zI f), .int (zI y), .int (zI a), .ref b]) (by rw [hz]) ?_
  refine v_muV X hM (h_mo.1) (c_X10_testifies_f2 l E b mo co a y f z hO hR hI ga gy (by omega) gz hf) kvX10_testifies kiX10_testifies kl_X10_101 (q0 := 0) rfl rfl (As := [.int (zI a), .int (zI y), .int (zI f), .int (zI z)]) rfl rfl rfl dX10_does_118 121 rfl (k' := 0) (n' := 0) rfl rfl (fun q hq => hq.elim) h_mo (fun rv H1 lo1 hM hF hpo => ?_)
  subst hpo
  replace h_mo := h_mo.kept hF 5 rfl (fun q _ _ h => h.elim)
  show V p l e (rmL 5 0 0) s m args below meth cd Q 5 H1 lo1 0 0 121 [(4, .int (zI f)), (3, .int (zI y)), (2, .int (zI a)), (0, .ref b), (1, .int (zI (5 * k)))] [.int (zI 2)]
  subst hQ; exact m_iret X hr hlk hM dX10_does_121 rfl rfl
set_option maxHeartbeats 4000000 in
set_option maxRecDepth 20000 in
theorem c_X10_does_f4_2 (l : Launch) (E : Nat → Nat → Nat) (b : Nat) (mo : Nat → Int → Int) (co : Nat → Int → Int) (k : Int) (a : Int) (y : Int) (f : Int) (z : Int) (hO : OkC co) (hR : RelC co (mo 1)) (hI : TsI co) (k0 : 0 ≤ k) (k1 : k < 61) (h0 : mo 4 (5 * k) = kcd 2) (ha : mo 4 (5 * k + 1) = a) (ga : Rg a) (hy : mo 4 (5 * k + 2) = y) (gy : Rg y) (hfl : mo 4 (5 * k + 3) = f) (gf : 0 ≤ f ∧ f ≤ 1) (hz : mo 4 (5 * k + 4) = z) (gz : Rg z) (hf : flC co 2 a y z = 4) : Mu l yX10_does cX10_does 5 (some .int) 5 0 0 E [] [.ref b, .int (zI (5 * k))] (fun H => PR E b (modelW E b mo) H) (fun rv H => rv = some (.int (zI 4))) := by
  refine Mu.start (own := RX10) rfl (by decide +kernel) (Nat.le_of_ble_eq_true rfl) ?_
  intro p e s m below meth cd args Q hQ X hr hlk hnm hM hPr
  have h_mo := hPr
  have hb0 := hO.b0
  have hbw := hO.bw
  have hr0 := hR.s0
  have hr1 := hR.s1
  refine v_aload_n X dX10_does_0 1 rfl 0 rfl ?_
  refine v_getf X hM.C h_mo.1 inX10 0 rfl rfl 14 (by decide) kf_X10_27 (fun _ h => h) rfl dX10_does_1 4 rfl ?_
  refine v_iload_n X dX10_does_4 5 rfl 1 rfl ?_
  refine v_iconst X dX10_does_5 6 rfl ?_
  refine v_iadd X dX10_does_6 7 rfl ?_
  refine v_iald X hM.C h_mo.1 4 rfl (by omega) (by omega) (by omega) dX10_does_7 8 rfl ?_
  show V p l e (rmL 5 0 0) s m args below meth cd Q 5 s.heap [] 0 0 8 [(0, .ref b), (1, .int (zI (5 * k)))] [.int (zI (mo 4 (5 * k + 1)))]
  refine V_S (st' := [.int (zI a)]) (by rw [ha]) ?_
  refine v_istore_n X dX10_does_8 9 rfl rfl (by decide) (L' := [(2, .int (zI a)), (0, .ref b), (1, .int (zI (5 * k)))]) rfl ?_
  refine v_aload_n X dX10_does_9 10 rfl 1 rfl ?_
  refine v_getf X hM.C h_mo.1 inX10 0 rfl rfl 14 (by decide) kf_X10_27 (fun _ h => h) rfl dX10_does_10 13 rfl ?_
  refine v_iload_n X dX10_does_13 14 rfl 2 rfl ?_
  refine v_iconst X dX10_does_14 15 rfl ?_
  refine v_iadd X dX10_does_15 16 rfl ?_
  refine v_iald X hM.C h_mo.1 4 rfl (by omega) (by omega) (by omega) dX10_does_16 17 rfl ?_
  show V p l e (rmL 5 0 0) s m args below meth cd Q 5 s.heap [] 0 0 17 [(2, .int (zI a)), (0, .ref b), (1, .int (zI (5 * k)))] [.int (zI (mo 4 (5 * k + 2)))]
  refine V_S (st' := [.int (zI y)]) (by rw [hy]) ?_
  refine v_istore_n X dX10_does_17 18 rfl rfl (by decide) (L' := [(3, .int (zI y)), (2, .int (zI a)), (0, .ref b), (1, .int (zI (5 * k)))]) rfl ?_
  refine v_aload_n X dX10_does_18 19 rfl 2 rfl ?_
  refine v_getf X hM.C h_mo.1 inX10 0 rfl rfl 14 (by decide) kf_X10_27 (fun _ h => h) rfl dX10_does_19 22 rfl ?_
  refine v_iload_n X dX10_does_22 23 rfl 3 rfl ?_
  refine v_iconst X dX10_does_23 24 rfl ?_
  refine v_iadd X dX10_does_24 25 rfl ?_
  refine v_iald X hM.C h_mo.1 4 rfl (by omega) (by omega) (by omega) dX10_does_25 26 rfl ?_
  show V p l e (rmL 5 0 0) s m args below meth cd Q 5 s.heap [] 0 0 26 [(3, .int (zI y)), (2, .int (zI a)), (0, .ref b), (1, .int (zI (5 * k)))] [.int (zI (mo 4 (5 * k + 3)))]
  refine V_S (st' := [.int (zI f)]) (by rw [hfl]) ?_
  refine v_istore X dX10_does_26 28 rfl (by decide) (L' := [(4, .int (zI f)), (3, .int (zI y)), (2, .int (zI a)), (0, .ref b), (1, .int (zI (5 * k)))]) rfl ?_
  refine v_aload_n X dX10_does_28 29 rfl 3 rfl ?_
  refine v_getf X hM.C h_mo.1 inX10 0 rfl rfl 14 (by decide) kf_X10_27 (fun _ h => h) rfl dX10_does_29 32 rfl ?_
  refine v_iload_n X dX10_does_32 33 rfl 4 rfl ?_
  refine v_iald X hM.C h_mo.1 4 rfl (by omega) (by omega) (by omega) dX10_does_33 34 rfl ?_
  show V p l e (rmL 5 0 0) s m args below meth cd Q 5 s.heap [] 0 0 34 [(4, .int (zI f)), (3, .int (zI y)), (2, .int (zI a)), (0, .ref b), (1, .int (zI (5 * k)))] [.int (zI (mo 4 (5 * k)))]
  refine V_S (st' := [.int (zI 116)]) (by rw [h0]; rfl) ?_
  refine v_lookup X dX10_does_34 (by decide) (off := 71) (by decide) 105 (by decide) ?_
  refine v_aload_n X dX10_does_105 106 rfl 3 rfl ?_
  refine v_iload_n X dX10_does_106 107 rfl 2 rfl ?_
  refine v_iload_n X dX10_does_107 108 rfl 1 rfl ?_
  refine v_iload X dX10_does_108 110 rfl 0 rfl ?_
  refine v_aload_n X dX10_does_110 111 rfl 3 rfl ?_
  refine v_getf X hM.C h_mo.1 inX10 0 rfl rfl 14 (by decide) kf_X10_27 (fun _ h => h) rfl dX10_does_111 114 rfl ?_
  refine v_iload_n X dX10_does_114 115 rfl 4 rfl ?_
  refine v_iconst X dX10_does_115 116 rfl ?_
  refine v_iadd X dX10_does_116 117 rfl ?_
  refine v_iald X hM.C h_mo.1 4 rfl (by omega) (by omega) (by omega) dX10_does_117 118 rfl ?_
  show V p l e (rmL 5 0 0) s m args below meth cd Q 5 s.heap [] 0 0 118 [(4, .int (zI f)), (3, .int (zI y)), (2, .int (zI a)), (0, .ref b), (1, .int (zI (5 * k)))] [.int (zI (mo 4 (5 * k + 4))), .int (zI f), .int (zI y), .int (zI a), .ref b]
  refine V_S (st' := [.int (zI z), .int (zI f), .int (zI y), .int (zI a), .ref b]) (by rw [hz]) ?_
  refine v_muV X hM (h_mo.1) (c_X10_testifies_f4 l E b mo co a y f z hO hR hI ga gy (by omega) gz hf) kvX10_testifies kiX10_testifies kl_X10_101 (q0 := 0) rfl rfl (As := [.int (zI a), .int (zI y), .int (zI f), .int (zI z)]) rfl rfl rfl dX10_does_118 121 rfl (k' := 0) (n' := 0) rfl rfl (fun q hq => hq.elim) h_mo (fun rv H1 lo1 hM hF hpo => ?_)
  subst hpo
  replace h_mo := h_mo.kept hF 5 rfl (fun q _ _ h => h.elim)
  show V p l e (rmL 5 0 0) s m args below meth cd Q 5 H1 lo1 0 0 121 [(4, .int (zI f)), (3, .int (zI y)), (2, .int (zI a)), (0, .ref b), (1, .int (zI (5 * k)))] [.int (zI 4)]
  subst hQ; exact m_iret X hr hlk hM dX10_does_121 rfl rfl
set_option maxHeartbeats 4000000 in
set_option maxRecDepth 20000 in
theorem c_X10_does_ok_3 (l : Launch) (E : Nat → Nat → Nat) (b : Nat) (mo : Nat → Int → Int) (co : Nat → Int → Int) (k : Int) (a : Int) (y : Int) (f : Int) (z : Int) (hO : OkC co) (hR : RelC co (mo 1)) (hI : TsI co) (k0 : 0 ≤ k) (k1 : k < 61) (h0 : mo 4 (5 * k) = kcd 3) (ha : mo 4 (5 * k + 1) = a) (ga : Rg a) (hy : mo 4 (5 * k + 2) = y) (gy : Rg y) (hfl : mo 4 (5 * k + 3) = f) (gf : 0 ≤ f ∧ f ≤ 1) (hf : flC co 3 a y z = 0) : Mu l yX10_does cX10_does 5 (some .int) 5 0 0 E [(b, 5)] [.ref b, .int (zI (5 * k))] (fun H => PR E b (modelW E b mo) H) (fun rv H => ∃ g1 : Int → Int, ∃ q4 : Int, rv = some (.int (zI 0)) ∧ RelC (opC co 3 a y f z) g1 ∧ (∀ i : Int, 492 ≤ i → g1 i = mo 1 i) ∧ PR E b (modelW E b (updC (updC mo 0 (updZ (mo 0) 4 q4)) 1 g1)) H) := by
  refine Mu.start (own := RX10) rfl (by decide +kernel) (Nat.le_of_ble_eq_true rfl) ?_
  intro p e s m below meth cd args Q hQ X hr hlk hnm hM hPr
  have h_mo := hPr
  have hb0 := hO.b0
  have hbw := hO.bw
  have hr0 := hR.s0
  have hr1 := hR.s1
  refine v_aload_n X dX10_does_0 1 rfl 0 rfl ?_
  refine v_getf X hM.C h_mo.1 inX10 0 rfl rfl 14 (by decide) kf_X10_27 (fun _ h => h) rfl dX10_does_1 4 rfl ?_
  refine v_iload_n X dX10_does_4 5 rfl 1 rfl ?_
  refine v_iconst X dX10_does_5 6 rfl ?_
  refine v_iadd X dX10_does_6 7 rfl ?_
  refine v_iald X hM.C h_mo.1 4 rfl (by omega) (by omega) (by omega) dX10_does_7 8 rfl ?_
  show V p l e (rmL 5 0 0) s m args below meth cd Q 5 s.heap [] 0 0 8 [(0, .ref b), (1, .int (zI (5 * k)))] [.int (zI (mo 4 (5 * k + 1)))]
  refine V_S (st' := [.int (zI a)]) (by rw [ha]) ?_
  refine v_istore_n X dX10_does_8 9 rfl rfl (by decide) (L' := [(2, .int (zI a)), (0, .ref b), (1, .int (zI (5 * k)))]) rfl ?_
  refine v_aload_n X dX10_does_9 10 rfl 1 rfl ?_
  refine v_getf X hM.C h_mo.1 inX10 0 rfl rfl 14 (by decide) kf_X10_27 (fun _ h => h) rfl dX10_does_10 13 rfl ?_
  refine v_iload_n X dX10_does_13 14 rfl 2 rfl ?_
  refine v_iconst X dX10_does_14 15 rfl ?_
  refine v_iadd X dX10_does_15 16 rfl ?_
  refine v_iald X hM.C h_mo.1 4 rfl (by omega) (by omega) (by omega) dX10_does_16 17 rfl ?_
  show V p l e (rmL 5 0 0) s m args below meth cd Q 5 s.heap [] 0 0 17 [(2, .int (zI a)), (0, .ref b), (1, .int (zI (5 * k)))] [.int (zI (mo 4 (5 * k + 2)))]
  refine V_S (st' := [.int (zI y)]) (by rw [hy]) ?_
  refine v_istore_n X dX10_does_17 18 rfl rfl (by decide) (L' := [(3, .int (zI y)), (2, .int (zI a)), (0, .ref b), (1, .int (zI (5 * k)))]) rfl ?_
  refine v_aload_n X dX10_does_18 19 rfl 2 rfl ?_
  refine v_getf X hM.C h_mo.1 inX10 0 rfl rfl 14 (by decide) kf_X10_27 (fun _ h => h) rfl dX10_does_19 22 rfl ?_
  refine v_iload_n X dX10_does_22 23 rfl 3 rfl ?_
  refine v_iconst X dX10_does_23 24 rfl ?_
  refine v_iadd X dX10_does_24 25 rfl ?_
  refine v_iald X hM.C h_mo.1 4 rfl (by omega) (by omega) (by omega) dX10_does_25 26 rfl ?_
  show V p l e (rmL 5 0 0) s m args below meth cd Q 5 s.heap [] 0 0 26 [(3, .int (zI y)), (2, .int (zI a)), (0, .ref b), (1, .int (zI (5 * k)))] [.int (zI (mo 4 (5 * k + 3)))]
  refine V_S (st' := [.int (zI f)]) (by rw [hfl]) ?_
  refine v_istore X dX10_does_26 28 rfl (by decide) (L' := [(4, .int (zI f)), (3, .int (zI y)), (2, .int (zI a)), (0, .ref b), (1, .int (zI (5 * k)))]) rfl ?_
  refine v_aload_n X dX10_does_28 29 rfl 3 rfl ?_
  refine v_getf X hM.C h_mo.1 inX10 0 rfl rfl 14 (by decide) kf_X10_27 (fun _ h => h) rfl dX10_does_29 32 rfl ?_
  refine v_iload_n X dX10_does_32 33 rfl 4 rfl ?_
  refine v_iald X hM.C h_mo.1 4 rfl (by omega) (by omega) (by omega) dX10_does_33 34 rfl ?_
  show V p l e (rmL 5 0 0) s m args below meth cd Q 5 s.heap [] 0 0 34 [(4, .int (zI f)), (3, .int (zI y)), (2, .int (zI a)), (0, .ref b), (1, .int (zI (5 * k)))] [.int (zI (mo 4 (5 * k)))]
  refine V_S (st' := [.int (zI 113)]) (by rw [h0]; rfl) ?_
  refine v_lookup X dX10_does_34 (by decide) (off := 88) (by decide) 122 (by decide) ?_
  refine v_aload_n X dX10_does_122 123 rfl 3 rfl ?_
  refine v_iload_n X dX10_does_123 124 rfl 2 rfl ?_
  refine v_iload_n X dX10_does_124 125 rfl 1 rfl ?_
  refine v_iload X dX10_does_125 127 rfl 0 rfl ?_
  refine v_iconst X dX10_does_127 128 rfl ?_
  refine v_icmp_ne X (by omega) (by omega) dX10_does_128 131 135 rfl (by decide) (fun c_1 => ?_) (fun c_1 => ?_)
  · skip
    refine v_iconst X dX10_does_135 136 rfl ?_
    have hb_2 := hO.b3 a
    refine v_muV X hM (h_mo.1) (c_X10_asks_ok l E b mo co a y 0 hO hR hI ga gy (by omega) hf) kvX10_asks kiX10_asks kl_X10_105 (q0 := 0) rfl rfl (As := [.int (zI a), .int (zI y), .int (zI 0)]) rfl rfl rfl dX10_does_136 139 rfl (k' := 0) (n' := 0) rfl rfl (fsI (fun q q1 q2 => (Or.inl (fsH (by omega) (by omega))))) h_mo (fun rv H3 lo3 hM hF hpo => ?_)
    obtain ⟨g1_4, rfl, hp_f_5, hp_f_6, hw_0⟩ := hpo
    have h_mo : PR E b (modelW E b (updC (updC mo 0 (updZ (mo 0) 4 (opV co 3 a y 0 0))) 1 g1_4)) H3 := hw_0
    show V p l e (rmL 5 0 0) s m args below meth cd Q 5 H3 lo3 0 0 139 [(4, .int (zI f)), (3, .int (zI y)), (2, .int (zI a)), (0, .ref b), (1, .int (zI (5 * k)))] [.int (zI 0)]
    subst hQ; exact m_iret X hr hlk hM dX10_does_139 rfl ⟨g1_4, (opV co 3 a y 0 0), rfl, (by first | (have e : f = 1 := (by omega); subst e; exact hp_f_5) | (have e : f = 0 := (by omega); subst e; exact hp_f_5)), (by exact hp_f_6), h_mo⟩
  · skip
    refine v_iconst X dX10_does_131 132 rfl ?_
    refine v_goto X dX10_does_132 136 (by decide) ?_
    have hb_7 := hO.b3 a
    refine v_muV X hM (h_mo.1) (c_X10_asks_ok l E b mo co a y 1 hO hR hI ga gy (by omega) hf) kvX10_asks kiX10_asks kl_X10_105 (q0 := 0) rfl rfl (As := [.int (zI a), .int (zI y), .int (zI 1)]) rfl rfl rfl dX10_does_136 139 rfl (k' := 0) (n' := 0) rfl rfl (fsI (fun q q1 q2 => (Or.inl (fsH (by omega) (by omega))))) h_mo (fun rv H8 lo8 hM hF hpo => ?_)
    obtain ⟨g1_9, rfl, hp_f_10, hp_f_11, hw_0⟩ := hpo
    have h_mo : PR E b (modelW E b (updC (updC mo 0 (updZ (mo 0) 4 (opV co 3 a y 1 0))) 1 g1_9)) H8 := hw_0
    show V p l e (rmL 5 0 0) s m args below meth cd Q 5 H8 lo8 0 0 139 [(4, .int (zI f)), (3, .int (zI y)), (2, .int (zI a)), (0, .ref b), (1, .int (zI (5 * k)))] [.int (zI 0)]
    subst hQ; exact m_iret X hr hlk hM dX10_does_139 rfl ⟨g1_9, (opV co 3 a y 1 0), rfl, (by first | (have e : f = 1 := (by omega); subst e; exact hp_f_10) | (have e : f = 0 := (by omega); subst e; exact hp_f_10)), (by exact hp_f_11), h_mo⟩
set_option maxHeartbeats 4000000 in
set_option maxRecDepth 20000 in
theorem c_X10_does_f1_3 (l : Launch) (E : Nat → Nat → Nat) (b : Nat) (mo : Nat → Int → Int) (co : Nat → Int → Int) (k : Int) (a : Int) (y : Int) (f : Int) (z : Int) (hO : OkC co) (hR : RelC co (mo 1)) (hI : TsI co) (k0 : 0 ≤ k) (k1 : k < 61) (h0 : mo 4 (5 * k) = kcd 3) (ha : mo 4 (5 * k + 1) = a) (ga : Rg a) (hy : mo 4 (5 * k + 2) = y) (gy : Rg y) (hfl : mo 4 (5 * k + 3) = f) (gf : 0 ≤ f ∧ f ≤ 1) (hf : flC co 3 a y z = 1) : Mu l yX10_does cX10_does 5 (some .int) 5 0 0 E [] [.ref b, .int (zI (5 * k))] (fun H => PR E b (modelW E b mo) H) (fun rv H => rv = some (.int (zI 1))) := by
  refine Mu.start (own := RX10) rfl (by decide +kernel) (Nat.le_of_ble_eq_true rfl) ?_
  intro p e s m below meth cd args Q hQ X hr hlk hnm hM hPr
  have h_mo := hPr
  have hb0 := hO.b0
  have hbw := hO.bw
  have hr0 := hR.s0
  have hr1 := hR.s1
  refine v_aload_n X dX10_does_0 1 rfl 0 rfl ?_
  refine v_getf X hM.C h_mo.1 inX10 0 rfl rfl 14 (by decide) kf_X10_27 (fun _ h => h) rfl dX10_does_1 4 rfl ?_
  refine v_iload_n X dX10_does_4 5 rfl 1 rfl ?_
  refine v_iconst X dX10_does_5 6 rfl ?_
  refine v_iadd X dX10_does_6 7 rfl ?_
  refine v_iald X hM.C h_mo.1 4 rfl (by omega) (by omega) (by omega) dX10_does_7 8 rfl ?_
  show V p l e (rmL 5 0 0) s m args below meth cd Q 5 s.heap [] 0 0 8 [(0, .ref b), (1, .int (zI (5 * k)))] [.int (zI (mo 4 (5 * k + 1)))]
  refine V_S (st' := [.int (zI a)]) (by rw [ha]) ?_
  refine v_istore_n X dX10_does_8 9 rfl rfl (by decide) (L' := [(2, .int (zI a)), (0, .ref b), (1, .int (zI (5 * k)))]) rfl ?_
  refine v_aload_n X dX10_does_9 10 rfl 1 rfl ?_
  refine v_getf X hM.C h_mo.1 inX10 0 rfl rfl 14 (by decide) kf_X10_27 (fun _ h => h) rfl dX10_does_10 13 rfl ?_
  refine v_iload_n X dX10_does_13 14 rfl 2 rfl ?_
  refine v_iconst X dX10_does_14 15 rfl ?_
  refine v_iadd X dX10_does_15 16 rfl ?_
  refine v_iald X hM.C h_mo.1 4 rfl (by omega) (by omega) (by omega) dX10_does_16 17 rfl ?_
  show V p l e (rmL 5 0 0) s m args below meth cd Q 5 s.heap [] 0 0 17 [(2, .int (zI a)), (0, .ref b), (1, .int (zI (5 * k)))] [.int (zI (mo 4 (5 * k + 2)))]
  refine V_S (st' := [.int (zI y)]) (by rw [hy]) ?_
  refine v_istore_n X dX10_does_17 18 rfl rfl (by decide) (L' := [(3, .int (zI y)), (2, .int (zI a)), (0, .ref b), (1, .int (zI (5 * k)))]) rfl ?_
  refine v_aload_n X dX10_does_18 19 rfl 2 rfl ?_
  refine v_getf X hM.C h_mo.1 inX10 0 rfl rfl 14 (by decide) kf_X10_27 (fun _ h => h) rfl dX10_does_19 22 rfl ?_
  refine v_iload_n X dX10_does_22 23 rfl 3 rfl ?_
  refine v_iconst X dX10_does_23 24 rfl ?_
  refine v_iadd X dX10_does_24 25 rfl ?_
  refine v_iald X hM.C h_mo.1 4 rfl (by omega) (by omega) (by omega) dX10_does_25 26 rfl ?_
  show V p l e (rmL 5 0 0) s m args below meth cd Q 5 s.heap [] 0 0 26 [(3, .int (zI y)), (2, .int (zI a)), (0, .ref b), (1, .int (zI (5 * k)))] [.int (zI (mo 4 (5 * k + 3)))]
  refine V_S (st' := [.int (zI f)]) (by rw [hfl]) ?_
  refine v_istore X dX10_does_26 28 rfl (by decide) (L' := [(4, .int (zI f)), (3, .int (zI y)), (2, .int (zI a)), (0, .ref b), (1, .int (zI (5 * k)))]) rfl ?_
  refine v_aload_n X dX10_does_28 29 rfl 3 rfl ?_
  refine v_getf X hM.C h_mo.1 inX10 0 rfl rfl 14 (by decide) kf_X10_27 (fun _ h => h) rfl dX10_does_29 32 rfl ?_
  refine v_iload_n X dX10_does_32 33 rfl 4 rfl ?_
  refine v_iald X hM.C h_mo.1 4 rfl (by omega) (by omega) (by omega) dX10_does_33 34 rfl ?_
  show V p l e (rmL 5 0 0) s m args below meth cd Q 5 s.heap [] 0 0 34 [(4, .int (zI f)), (3, .int (zI y)), (2, .int (zI a)), (0, .ref b), (1, .int (zI (5 * k)))] [.int (zI (mo 4 (5 * k)))]
  refine V_S (st' := [.int (zI 113)]) (by rw [h0]; rfl) ?_
  refine v_lookup X dX10_does_34 (by decide) (off := 88) (by decide) 122 (by decide) ?_
  refine v_aload_n X dX10_does_122 123 rfl 3 rfl ?_
  refine v_iload_n X dX10_does_123 124 rfl 2 rfl ?_
  refine v_iload_n X dX10_does_124 125 rfl 1 rfl ?_
  refine v_iload X dX10_does_125 127 rfl 0 rfl ?_
  refine v_iconst X dX10_does_127 128 rfl ?_
  refine v_icmp_ne X (by omega) (by omega) dX10_does_128 131 135 rfl (by decide) (fun c_1 => ?_) (fun c_1 => ?_)
  · skip
    refine v_iconst X dX10_does_135 136 rfl ?_
    have hb_2 := hO.b3 a
    refine v_muV X hM (h_mo.1) (c_X10_asks_f1 l E b mo co a y 0 hO hR hI ga gy (by omega) hf) kvX10_asks kiX10_asks kl_X10_105 (q0 := 0) rfl rfl (As := [.int (zI a), .int (zI y), .int (zI 0)]) rfl rfl rfl dX10_does_136 139 rfl (k' := 0) (n' := 0) rfl rfl (fun q hq => hq.elim) h_mo (fun rv H3 lo3 hM hF hpo => ?_)
    subst hpo
    replace h_mo := h_mo.kept hF 5 rfl (fun q _ _ h => h.elim)
    show V p l e (rmL 5 0 0) s m args below meth cd Q 5 H3 lo3 0 0 139 [(4, .int (zI f)), (3, .int (zI y)), (2, .int (zI a)), (0, .ref b), (1, .int (zI (5 * k)))] [.int (zI 1)]
    subst hQ; exact m_iret X hr hlk hM dX10_does_139 rfl rfl
  · skip
    refine v_iconst X dX10_does_131 132 rfl ?_
    refine v_goto X dX10_does_132 136 (by decide) ?_
    have hb_4 := hO.b3 a
    refine v_muV X hM (h_mo.1) (c_X10_asks_f1 l E b mo co a y 1 hO hR hI ga gy (by omega) hf) kvX10_asks kiX10_asks kl_X10_105 (q0 := 0) rfl rfl (As := [.int (zI a), .int (zI y), .int (zI 1)]) rfl rfl rfl dX10_does_136 139 rfl (k' := 0) (n' := 0) rfl rfl (fun q hq => hq.elim) h_mo (fun rv H5 lo5 hM hF hpo => ?_)
    subst hpo
    replace h_mo := h_mo.kept hF 5 rfl (fun q _ _ h => h.elim)
    show V p l e (rmL 5 0 0) s m args below meth cd Q 5 H5 lo5 0 0 139 [(4, .int (zI f)), (3, .int (zI y)), (2, .int (zI a)), (0, .ref b), (1, .int (zI (5 * k)))] [.int (zI 1)]
    subst hQ; exact m_iret X hr hlk hM dX10_does_139 rfl rfl
set_option maxHeartbeats 4000000 in
set_option maxRecDepth 20000 in
theorem c_X10_does_f3_3 (l : Launch) (E : Nat → Nat → Nat) (b : Nat) (mo : Nat → Int → Int) (co : Nat → Int → Int) (k : Int) (a : Int) (y : Int) (f : Int) (z : Int) (hO : OkC co) (hR : RelC co (mo 1)) (hI : TsI co) (k0 : 0 ≤ k) (k1 : k < 61) (h0 : mo 4 (5 * k) = kcd 3) (ha : mo 4 (5 * k + 1) = a) (ga : Rg a) (hy : mo 4 (5 * k + 2) = y) (gy : Rg y) (hfl : mo 4 (5 * k + 3) = f) (gf : 0 ≤ f ∧ f ≤ 1) (hf : flC co 3 a y z = 3) : Mu l yX10_does cX10_does 5 (some .int) 5 0 0 E [] [.ref b, .int (zI (5 * k))] (fun H => PR E b (modelW E b mo) H) (fun rv H => rv = some (.int (zI 3))) := by
  refine Mu.start (own := RX10) rfl (by decide +kernel) (Nat.le_of_ble_eq_true rfl) ?_
  intro p e s m below meth cd args Q hQ X hr hlk hnm hM hPr
  have h_mo := hPr
  have hb0 := hO.b0
  have hbw := hO.bw
  have hr0 := hR.s0
  have hr1 := hR.s1
  refine v_aload_n X dX10_does_0 1 rfl 0 rfl ?_
  refine v_getf X hM.C h_mo.1 inX10 0 rfl rfl 14 (by decide) kf_X10_27 (fun _ h => h) rfl dX10_does_1 4 rfl ?_
  refine v_iload_n X dX10_does_4 5 rfl 1 rfl ?_
  refine v_iconst X dX10_does_5 6 rfl ?_
  refine v_iadd X dX10_does_6 7 rfl ?_
  refine v_iald X hM.C h_mo.1 4 rfl (by omega) (by omega) (by omega) dX10_does_7 8 rfl ?_
  show V p l e (rmL 5 0 0) s m args below meth cd Q 5 s.heap [] 0 0 8 [(0, .ref b), (1, .int (zI (5 * k)))] [.int (zI (mo 4 (5 * k + 1)))]
  refine V_S (st' := [.int (zI a)]) (by rw [ha]) ?_
  refine v_istore_n X dX10_does_8 9 rfl rfl (by decide) (L' := [(2, .int (zI a)), (0, .ref b), (1, .int (zI (5 * k)))]) rfl ?_
  refine v_aload_n X dX10_does_9 10 rfl 1 rfl ?_
  refine v_getf X hM.C h_mo.1 inX10 0 rfl rfl 14 (by decide) kf_X10_27 (fun _ h => h) rfl dX10_does_10 13 rfl ?_
  refine v_iload_n X dX10_does_13 14 rfl 2 rfl ?_
  refine v_iconst X dX10_does_14 15 rfl ?_
  refine v_iadd X dX10_does_15 16 rfl ?_
  refine v_iald X hM.C h_mo.1 4 rfl (by omega) (by omega) (by omega) dX10_does_16 17 rfl ?_
  show V p l e (rmL 5 0 0) s m args below meth cd Q 5 s.heap [] 0 0 17 [(2, .int (zI a)), (0, .ref b), (1, .int (zI (5 * k)))] [.int (zI (mo 4 (5 * k + 2)))]
  refine V_S (st' := [.int (zI y)]) (by rw [hy]) ?_
  refine v_istore_n X dX10_does_17 18 rfl rfl (by decide) (L' := [(3, .int (zI y)), (2, .int (zI a)), (0, .ref b), (1, .int (zI (5 * k)))]) rfl ?_
  refine v_aload_n X dX10_does_18 19 rfl 2 rfl ?_
  refine v_getf X hM.C h_mo.1 inX10 0 rfl rfl 14 (by decide) kf_X10_27 (fun _ h => h) rfl dX10_does_19 22 rfl ?_
  refine v_iload_n X dX10_does_22 23 rfl 3 rfl ?_
  refine v_iconst X dX10_does_23 24 rfl ?_
  refine v_iadd X dX10_does_24 25 rfl ?_
  refine v_iald X hM.C h_mo.1 4 rfl (by omega) (by omega) (by omega) dX10_does_25 26 rfl ?_
  show V p l e (rmL 5 0 0) s m args below meth cd Q 5 s.heap [] 0 0 26 [(3, .int (zI y)), (2, .int (zI a)), (0, .ref b), (1, .int (zI (5 * k)))] [.int (zI (mo 4 (5 * k + 3)))]
  refine V_S (st' := [.int (zI f)]) (by rw [hfl]) ?_
  refine v_istore X dX10_does_26 28 rfl (by decide) (L' := [(4, .int (zI f)), (3, .int (zI y)), (2, .int (zI a)), (0, .ref b), (1, .int (zI (5 * k)))]) rfl ?_
  refine v_aload_n X dX10_does_28 29 rfl 3 rfl ?_
  refine v_getf X hM.C h_mo.1 inX10 0 rfl rfl 14 (by decide) kf_X10_27 (fun _ h => h) rfl dX10_does_29 32 rfl ?_
  refine v_iload_n X dX10_does_32 33 rfl 4 rfl ?_
  refine v_iald X hM.C h_mo.1 4 rfl (by omega) (by omega) (by omega) dX10_does_33 34 rfl ?_
  show V p l e (rmL 5 0 0) s m args below meth cd Q 5 s.heap [] 0 0 34 [(4, .int (zI f)), (3, .int (zI y)), (2, .int (zI a)), (0, .ref b), (1, .int (zI (5 * k)))] [.int (zI (mo 4 (5 * k)))]
  refine V_S (st' := [.int (zI 113)]) (by rw [h0]; rfl) ?_
  refine v_lookup X dX10_does_34 (by decide) (off := 88) (by decide) 122 (by decide) ?_
  refine v_aload_n X dX10_does_122 123 rfl 3 rfl ?_
  refine v_iload_n X dX10_does_123 124 rfl 2 rfl ?_
  refine v_iload_n X dX10_does_124 125 rfl 1 rfl ?_
  refine v_iload X dX10_does_125 127 rfl 0 rfl ?_
  refine v_iconst X dX10_does_127 128 rfl ?_
  refine v_icmp_ne X (by omega) (by omega) dX10_does_128 131 135 rfl (by decide) (fun c_1 => ?_) (fun c_1 => ?_)
  · skip
    refine v_iconst X dX10_does_135 136 rfl ?_
    have hb_2 := hO.b3 a
    refine v_muV X hM (h_mo.1) (c_X10_asks_f3 l E b mo co a y 0 hO hR hI ga gy (by omega) hf) kvX10_asks kiX10_asks kl_X10_105 (q0 := 0) rfl rfl (As := [.int (zI a), .int (zI y), .int (zI 0)]) rfl rfl rfl dX10_does_136 139 rfl (k' := 0) (n' := 0) rfl rfl (fun q hq => hq.elim) h_mo (fun rv H3 lo3 hM hF hpo => ?_)
    subst hpo
    replace h_mo := h_mo.kept hF 5 rfl (fun q _ _ h => h.elim)
    show V p l e (rmL 5 0 0) s m args below meth cd Q 5 H3 lo3 0 0 139 [(4, .int (zI f)), (3, .int (zI y)), (2, .int (zI a)), (0, .ref b), (1, .int (zI (5 * k)))] [.int (zI 3)]
    subst hQ; exact m_iret X hr hlk hM dX10_does_139 rfl rfl
  · skip
    refine v_iconst X dX10_does_131 132 rfl ?_
    refine v_goto X dX10_does_132 136 (by decide) ?_
    have hb_4 := hO.b3 a
    refine v_muV X hM (h_mo.1) (c_X10_asks_f3 l E b mo co a y 1 hO hR hI ga gy (by omega) hf) kvX10_asks kiX10_asks kl_X10_105 (q0 := 0) rfl rfl (As := [.int (zI a), .int (zI y), .int (zI 1)]) rfl rfl rfl dX10_does_136 139 rfl (k' := 0) (n' := 0) rfl rfl (fun q hq => hq.elim) h_mo (fun rv H5 lo5 hM hF hpo => ?_)
    subst hpo
    replace h_mo := h_mo.kept hF 5 rfl (fun q _ _ h => h.elim)
    show V p l e (rmL 5 0 0) s m args below meth cd Q 5 H5 lo5 0 0 139 [(4, .int (zI f)), (3, .int (zI y)), (2, .int (zI a)), (0, .ref b), (1, .int (zI (5 * k)))] [.int (zI 3)]
    subst hQ; exact m_iret X hr hlk hM dX10_does_139 rfl rfl
set_option maxHeartbeats 4000000 in
set_option maxRecDepth 20000 in
theorem c_X10_does_f4_3 (l : Launch) (E : Nat → Nat → Nat) (b : Nat) (mo : Nat → Int → Int) (co : Nat → Int → Int) (k : Int) (a : Int) (y : Int) (f : Int) (z : Int) (hO : OkC co) (hR : RelC co (mo 1)) (hI : TsI co) (k0 : 0 ≤ k) (k1 : k < 61) (h0 : mo 4 (5 * k) = kcd 3) (ha : mo 4 (5 * k + 1) = a) (ga : Rg a) (hy : mo 4 (5 * k + 2) = y) (gy : Rg y) (hfl : mo 4 (5 * k + 3) = f) (gf : 0 ≤ f ∧ f ≤ 1) (hf : flC co 3 a y z = 4) : Mu l yX10_does cX10_does 5 (some .int) 5 0 0 E [] [.ref b, .int (zI (5 * k))] (fun H => PR E b (modelW E b mo) H) (fun rv H => rv = some (.int (zI 4))) := by
  refine Mu.start (own := RX10) rfl (by decide +kernel) (Nat.le_of_ble_eq_true rfl) ?_
  intro p e s m below meth cd args Q hQ X hr hlk hnm hM hPr
  have h_mo := hPr
  have hb0 := hO.b0
  have hbw := hO.bw
  have hr0 := hR.s0
  have hr1 := hR.s1
  refine v_aload_n X dX10_does_0 1 rfl 0 rfl ?_
  refine v_getf X hM.C h_mo.1 inX10 0 rfl rfl 14 (by decide) kf_X10_27 (fun _ h => h) rfl dX10_does_1 4 rfl ?_
  refine v_iload_n X dX10_does_4 5 rfl 1 rfl ?_
  refine v_iconst X dX10_does_5 6 rfl ?_
  refine v_iadd X dX10_does_6 7 rfl ?_
  refine v_iald X hM.C h_mo.1 4 rfl (by omega) (by omega) (by omega) dX10_does_7 8 rfl ?_
  show V p l e (rmL 5 0 0) s m args below meth cd Q 5 s.heap [] 0 0 8 [(0, .ref b), (1, .int (zI (5 * k)))] [.int (zI (mo 4 (5 * k + 1)))]
  refine V_S (st' := [.int (zI a)]) (by rw [ha]) ?_
  refine v_istore_n X dX10_does_8 9 rfl rfl (by decide) (L' := [(2, .int (zI a)), (0, .ref b), (1, .int (zI (5 * k)))]) rfl ?_
  refine v_aload_n X dX10_does_9 10 rfl 1 rfl ?_
  refine v_getf X hM.C h_mo.1 inX10 0 rfl rfl 14 (by decide) kf_X10_27 (fun _ h => h) rfl dX10_does_10 13 rfl ?_
  refine v_iload_n X dX10_does_13 14 rfl 2 rfl ?_
  refine v_iconst X dX10_does_14 15 rfl ?_
  refine v_iadd X dX10_does_15 16 rfl ?_
  refine v_iald X hM.C h_mo.1 4 rfl (by omega) (by omega) (by omega) dX10_does_16 17 rfl ?_
  show V p l e (rmL 5 0 0) s m args below meth cd Q 5 s.heap [] 0 0 17 [(2, .int (zI a)), (0, .ref b), (1, .int (zI (5 * k)))] [.int (zI (mo 4 (5 * k + 2)))]
  refine V_S (st' := [.int (zI y)]) (by rw [hy]) ?_
  refine v_istore_n X dX10_does_17 18 rfl rfl (by decide) (L' := [(3, .int (zI y)), (2, .int (zI a)), (0, .ref b), (1, .int (zI (5 * k)))]) rfl ?_
  refine v_aload_n X dX10_does_18 19 rfl 2 rfl ?_
  refine v_getf X hM.C h_mo.1 inX10 0 rfl rfl 14 (by decide) kf_X10_27 (fun _ h => h) rfl dX10_does_19 22 rfl ?_
  refine v_iload_n X dX10_does_22 23 rfl 3 rfl ?_
  refine v_iconst X dX10_does_23 24 rfl ?_
  refine v_iadd X dX10_does_24 25 rfl ?_
  refine v_iald X hM.C h_mo.1 4 rfl (by omega) (by omega) (by omega) dX10_does_25 26 rfl ?_
  show V p l e (rmL 5 0 0) s m args below meth cd Q 5 s.heap [] 0 0 26 [(3, .int (zI y)), (2, .int (zI a)), (0, .ref b), (1, .int (zI (5 * k)))] [.int (zI (mo 4 (5 * k + 3)))]
  refine V_S (st' := [.int (zI f)]) (by rw [hfl]) ?_
  refine v_istore X dX10_does_26 28 rfl (by decide) (L' := [(4, .int (zI f)), (3, .int (zI y)), (2, .int (zI a)), (0, .ref b), (1, .int (zI (5 * k)))]) rfl ?_
  refine v_aload_n X dX10_does_28 29 rfl 3 rfl ?_
  refine v_getf X hM.C h_mo.1 inX10 0 rfl rfl 14 (by decide) kf_X10_27 (fun _ h => h) rfl dX10_does_29 32 rfl ?_
  refine v_iload_n X dX10_does_32 33 rfl 4 rfl ?_
  refine v_iald X hM.C h_mo.1 4 rfl (by omega) (by omega) (by omega) dX10_does_33 34 rfl ?_
  show V p l e (rmL 5 0 0) s m args below meth cd Q 5 s.heap [] 0 0 34 [(4, .int (zI f)), (3, .int (zI y)), (2, .int (zI a)), (0, .ref b), (1, .int (zI (5 * k)))] [.int (zI (mo 4 (5 * k)))]
  refine V_S (st' := [.int (zI 113)]) (by rw [h0]; rfl) ?_
  refine v_lookup X dX10_does_34 (by decide) (off := 88) (by decide) 122 (by decide) ?_
  refine v_aload_n X dX10_does_122 123 rfl 3 rfl ?_
  refine v_iload_n X dX10_does_123 124 rfl 2 rfl ?_
  refine v_iload_n X dX10_does_124 125 rfl 1 rfl ?_
  refine v_iload X dX10_does_125 127 rfl 0 rfl ?_
  refine v_iconst X dX10_does_127 128 rfl ?_
  refine v_icmp_ne X (by omega) (by omega) dX10_does_128 131 135 rfl (by decide) (fun c_1 => ?_) (fun c_1 => ?_)
  · skip
    refine v_iconst X dX10_does_135 136 rfl ?_
    have hb_2 := hO.b3 a
    refine v_muV X hM (h_mo.1) (c_X10_asks_f4 l E b mo co a y 0 hO hR hI ga gy (by omega) hf) kvX10_asks kiX10_asks kl_X10_105 (q0 := 0) rfl rfl (As := [.int (zI a), .int (zI y), .int (zI 0)]) rfl rfl rfl dX10_does_136 139 rfl (k' := 0) (n' := 0) rfl rfl (fun q hq => hq.elim) h_mo (fun rv H3 lo3 hM hF hpo => ?_)
    subst hpo
    replace h_mo := h_mo.kept hF 5 rfl (fun q _ _ h => h.elim)
    show V p l e (rmL 5 0 0) s m args below meth cd Q 5 H3 lo3 0 0 139 [(4, .int (zI f)), (3, .int (zI y)), (2, .int (zI a)), (0, .ref b), (1, .int (zI (5 * k)))] [.int (zI 4)]
    subst hQ; exact m_iret X hr hlk hM dX10_does_139 rfl rfl
  · skip
    refine v_iconst X dX10_does_131 132 rfl ?_
    refine v_goto X dX10_does_132 136 (by decide) ?_
    have hb_4 := hO.b3 a
    refine v_muV X hM (h_mo.1) (c_X10_asks_f4 l E b mo co a y 1 hO hR hI ga gy (by omega) hf) kvX10_asks kiX10_asks kl_X10_105 (q0 := 0) rfl rfl (As := [.int (zI a), .int (zI y), .int (zI 1)]) rfl rfl rfl dX10_does_136 139 rfl (k' := 0) (n' := 0) rfl rfl (fun q hq => hq.elim) h_mo (fun rv H5 lo5 hM hF hpo => ?_)
    subst hpo
    replace h_mo := h_mo.kept hF 5 rfl (fun q _ _ h => h.elim)
    show V p l e (rmL 5 0 0) s m args below meth cd Q 5 H5 lo5 0 0 139 [(4, .int (zI f)), (3, .int (zI y)), (2, .int (zI a)), (0, .ref b), (1, .int (zI (5 * k)))] [.int (zI 4)]
    subst hQ; exact m_iret X hr hlk hM dX10_does_139 rfl rfl
set_option maxHeartbeats 4000000 in
set_option maxRecDepth 20000 in
theorem c_X10_does_ok_4 (l : Launch) (E : Nat → Nat → Nat) (b : Nat) (mo : Nat → Int → Int) (co : Nat → Int → Int) (k : Int) (a : Int) (y : Int) (f : Int) (z : Int) (hO : OkC co) (hR : RelC co (mo 1)) (hI : TsI co) (k0 : 0 ≤ k) (k1 : k < 61) (h0 : mo 4 (5 * k) = kcd 4) (ha : mo 4 (5 * k + 1) = a) (ga : Rg a) (hf : flC co 4 a y z = 0) : Mu l yX10_does cX10_does 5 (some .int) 5 0 0 E [(b, 5)] [.ref b, .int (zI (5 * k))] (fun H => PR E b (modelW E b mo) H) (fun rv H => ∃ g1 : Int → Int, ∃ q4 : Int, rv = some (.int (zI 0)) ∧ RelC (opC co 4 a y f z) g1 ∧ (∀ i : Int, 492 ≤ i → g1 i = mo 1 i) ∧ PR E b (modelW E b (updC (updC mo 0 (updZ (mo 0) 4 q4)) 1 g1)) H) := by
  refine Mu.start (own := RX10) rfl (by decide +kernel) (Nat.le_of_ble_eq_true rfl) ?_
  intro p e s m below meth cd args Q hQ X hr hlk hnm hM hPr
  have h_mo := hPr
  have hb0 := hO.b0
  have hbw := hO.bw
  have hr0 := hR.s0
  have hr1 := hR.s1
  refine v_aload_n X dX10_does_0 1 rfl 0 rfl ?_
  refine v_getf X hM.C h_mo.1 inX10 0 rfl rfl 14 (by decide) kf_X10_27 (fun _ h => h) rfl dX10_does_1 4 rfl ?_
  refine v_iload_n X dX10_does_4 5 rfl 1 rfl ?_
  refine v_iconst X dX10_does_5 6 rfl ?_
  refine v_iadd X dX10_does_6 7 rfl ?_
  refine v_iald X hM.C h_mo.1 4 rfl (by omega) (by omega) (by omega) dX10_does_7 8 rfl ?_
  show V p l e (rmL 5 0 0) s m args below meth cd Q 5 s.heap [] 0 0 8 [(0, .ref b), (1, .int (zI (5 * k)))] [.int (zI (mo 4 (5 * k + 1)))]
  refine V_S (st' := [.int (zI a)]) (by rw [ha]) ?_
  refine v_istore_n X dX10_does_8 9 rfl rfl (by decide) (L' := [(2, .int (zI a)), (0, .ref b), (1, .int (zI (5 * k)))]) rfl ?_
  refine v_aload_n X dX10_does_9 10 rfl 1 rfl ?_
  refine v_getf X hM.C h_mo.1 inX10 0 rfl rfl 14 (by decide) kf_X10_27 (fun _ h => h) rfl dX10_does_10 13 rfl ?_
  refine v_iload_n X dX10_does_13 14 rfl 2 rfl ?_
  refine v_iconst X dX10_does_14 15 rfl ?_
  refine v_iadd X dX10_does_15 16 rfl ?_
  refine v_iald X hM.C h_mo.1 4 rfl (by omega) (by omega) (by omega) dX10_does_16 17 rfl ?_
  show V p l e (rmL 5 0 0) s m args below meth cd Q 5 s.heap [] 0 0 17 [(2, .int (zI a)), (0, .ref b), (1, .int (zI (5 * k)))] [.int (zI (mo 4 (5 * k + 2)))]
  refine v_istore_n X dX10_does_17 18 rfl rfl (by decide) (L' := [(3, .int (zI (mo 4 (5 * k + 2)))), (2, .int (zI a)), (0, .ref b), (1, .int (zI (5 * k)))]) rfl ?_
  refine v_aload_n X dX10_does_18 19 rfl 2 rfl ?_
  refine v_getf X hM.C h_mo.1 inX10 0 rfl rfl 14 (by decide) kf_X10_27 (fun _ h => h) rfl dX10_does_19 22 rfl ?_
  refine v_iload_n X dX10_does_22 23 rfl 3 rfl ?_
  refine v_iconst X dX10_does_23 24 rfl ?_
  refine v_iadd X dX10_does_24 25 rfl ?_
  refine v_iald X hM.C h_mo.1 4 rfl (by omega) (by omega) (by omega) dX10_does_25 26 rfl ?_
  show V p l e (rmL 5 0 0) s m args below meth cd Q 5 s.heap [] 0 0 26 [(3, .int (zI (mo 4 (5 * k + 2)))), (2, .int (zI a)), (0, .ref b), (1, .int (zI (5 * k)))] [.int (zI (mo 4 (5 * k + 3)))]
  refine v_istore X dX10_does_26 28 rfl (by decide) (L' := [(4, .int (zI (mo 4 (5 * k + 3)))), (3, .int (zI (mo 4 (5 * k + 2)))), (2, .int (zI a)), (0, .ref b), (1, .int (zI (5 * k)))]) rfl ?_
  refine v_aload_n X dX10_does_28 29 rfl 3 rfl ?_
  refine v_getf X hM.C h_mo.1 inX10 0 rfl rfl 14 (by decide) kf_X10_27 (fun _ h => h) rfl dX10_does_29 32 rfl ?_
  refine v_iload_n X dX10_does_32 33 rfl 4 rfl ?_
  refine v_iald X hM.C h_mo.1 4 rfl (by omega) (by omega) (by omega) dX10_does_33 34 rfl ?_
  show V p l e (rmL 5 0 0) s m args below meth cd Q 5 s.heap [] 0 0 34 [(4, .int (zI (mo 4 (5 * k + 3)))), (3, .int (zI (mo 4 (5 * k + 2)))), (2, .int (zI a)), (0, .ref b), (1, .int (zI (5 * k)))] [.int (zI (mo 4 (5 * k)))]
  refine V_S (st' := [.int (zI 100)]) (by rw [h0]; rfl) ?_
  refine v_lookup X dX10_does_34 (by decide) (off := 106) (by decide) 140 (by decide) ?_
  refine v_aload_n X dX10_does_140 141 rfl 3 rfl ?_
  refine v_iload_n X dX10_does_141 142 rfl 2 rfl ?_
  have hb_1 := hO.b4 a
  refine v_muV X hM (h_mo.1) (c_X10_decides_ok l E b mo co a hO hR hI ga hf) kvX10_decides kiX10_decides kl_X10_112 (q0 := 0) rfl rfl (As := [.int (zI a)]) rfl rfl rfl dX10_does_142 145 rfl (k' := 0) (n' := 0) rfl rfl (fsI (fun q q1 q2 => (Or.inl (fsH (by omega) (by omega))))) h_mo (fun rv H2 lo2 hM hF hpo => ?_)
  obtain ⟨g1_3, rfl, hp_f_4, hp_f_5, hw_0⟩ := hpo
  have h_mo : PR E b (modelW E b (updC (updC mo 0 (updZ (mo 0) 4 (opV co 4 a 0 0 0))) 1 g1_3)) H2 := hw_0
  show V p l e (rmL 5 0 0) s m args below meth cd Q 5 H2 lo2 0 0 145 [(4, .int (zI (mo 4 (5 * k + 3)))), (3, .int (zI (mo 4 (5 * k + 2)))), (2, .int (zI a)), (0, .ref b), (1, .int (zI (5 * k)))] [.int (zI 0)]
  subst hQ; exact m_iret X hr hlk hM dX10_does_145 rfl ⟨g1_3, (opV co 4 a 0 0 0), rfl, (by exact hp_f_4), (by exact hp_f_5), h_mo⟩
set_option maxHeartbeats 4000000 in
set_option maxRecDepth 20000 in
theorem c_X10_does_f1_4 (l : Launch) (E : Nat → Nat → Nat) (b : Nat) (mo : Nat → Int → Int) (co : Nat → Int → Int) (k : Int) (a : Int) (y : Int) (f : Int) (z : Int) (hO : OkC co) (hR : RelC co (mo 1)) (hI : TsI co) (k0 : 0 ≤ k) (k1 : k < 61) (h0 : mo 4 (5 * k) = kcd 4) (ha : mo 4 (5 * k + 1) = a) (ga : Rg a) (hf : flC co 4 a y z = 1) : Mu l yX10_does cX10_does 5 (some .int) 5 0 0 E [] [.ref b, .int (zI (5 * k))] (fun H => PR E b (modelW E b mo) H) (fun rv H => rv = some (.int (zI 1))) := by
  refine Mu.start (own := RX10) rfl (by decide +kernel) (Nat.le_of_ble_eq_true rfl) ?_
  intro p e s m below meth cd args Q hQ X hr hlk hnm hM hPr
  have h_mo := hPr
  have hb0 := hO.b0
  have hbw := hO.bw
  have hr0 := hR.s0
  have hr1 := hR.s1
  refine v_aload_n X dX10_does_0 1 rfl 0 rfl ?_
  refine v_getf X hM.C h_mo.1 inX10 0 rfl rfl 14 (by decide) kf_X10_27 (fun _ h => h) rfl dX10_does_1 4 rfl ?_
  refine v_iload_n X dX10_does_4 5 rfl 1 rfl ?_
  refine v_iconst X dX10_does_5 6 rfl ?_
  refine v_iadd X dX10_does_6 7 rfl ?_
  refine v_iald X hM.C h_mo.1 4 rfl (by omega) (by omega) (by omega) dX10_does_7 8 rfl ?_
  show V p l e (rmL 5 0 0) s m args below meth cd Q 5 s.heap [] 0 0 8 [(0, .ref b), (1, .int (zI (5 * k)))] [.int (zI (mo 4 (5 * k + 1)))]
  refine V_S (st' := [.int (zI a)]) (by rw [ha]) ?_
  refine v_istore_n X dX10_does_8 9 rfl rfl (by decide) (L' := [(2, .int (zI a)), (0, .ref b), (1, .int (zI (5 * k)))]) rfl ?_
  refine v_aload_n X dX10_does_9 10 rfl 1 rfl ?_
  refine v_getf X hM.C h_mo.1 inX10 0 rfl rfl 14 (by decide) kf_X10_27 (fun _ h => h) rfl dX10_does_10 13 rfl ?_
  refine v_iload_n X dX10_does_13 14 rfl 2 rfl ?_
  refine v_iconst X dX10_does_14 15 rfl ?_
  refine v_iadd X dX10_does_15 16 rfl ?_
  refine v_iald X hM.C h_mo.1 4 rfl (by omega) (by omega) (by omega) dX10_does_16 17 rfl ?_
  show V p l e (rmL 5 0 0) s m args below meth cd Q 5 s.heap [] 0 0 17 [(2, .int (zI a)), (0, .ref b), (1, .int (zI (5 * k)))] [.int (zI (mo 4 (5 * k + 2)))]
  refine v_istore_n X dX10_does_17 18 rfl rfl (by decide) (L' := [(3, .int (zI (mo 4 (5 * k + 2)))), (2, .int (zI a)), (0, .ref b), (1, .int (zI (5 * k)))]) rfl ?_
  refine v_aload_n X dX10_does_18 19 rfl 2 rfl ?_
  refine v_getf X hM.C h_mo.1 inX10 0 rfl rfl 14 (by decide) kf_X10_27 (fun _ h => h) rfl dX10_does_19 22 rfl ?_
  refine v_iload_n X dX10_does_22 23 rfl 3 rfl ?_
  refine v_iconst X dX10_does_23 24 rfl ?_
  refine v_iadd X dX10_does_24 25 rfl ?_
  refine v_iald X hM.C h_mo.1 4 rfl (by omega) (by omega) (by omega) dX10_does_25 26 rfl ?_
  show V p l e (rmL 5 0 0) s m args below meth cd Q 5 s.heap [] 0 0 26 [(3, .int (zI (mo 4 (5 * k + 2)))), (2, .int (zI a)), (0, .ref b), (1, .int (zI (5 * k)))] [.int (zI (mo 4 (5 * k + 3)))]
  refine v_istore X dX10_does_26 28 rfl (by decide) (L' := [(4, .int (zI (mo 4 (5 * k + 3)))), (3, .int (zI (mo 4 (5 * k + 2)))), (2, .int (zI a)), (0, .ref b), (1, .int (zI (5 * k)))]) rfl ?_
  refine v_aload_n X dX10_does_28 29 rfl 3 rfl ?_
  refine v_getf X hM.C h_mo.1 inX10 0 rfl rfl 14 (by decide) kf_X10_27 (fun _ h => h) rfl dX10_does_29 32 rfl ?_
  refine v_iload_n X dX10_does_32 33 rfl 4 rfl ?_
  refine v_iald X hM.C h_mo.1 4 rfl (by omega) (by omega) (by omega) dX10_does_33 34 rfl ?_
  show V p l e (rmL 5 0 0) s m args below meth cd Q 5 s.heap [] 0 0 34 [(4, .int (zI (mo 4 (5 * k + 3)))), (3, .int (zI (mo 4 (5 * k + 2)))), (2, .int (zI a)), (0, .ref b), (1, .int (zI (5 * k)))] [.int (zI (mo 4 (5 * k)))]
  refine V_S (st' := [.int (zI 100)]) (by rw [h0]; rfl) ?_
  refine v_lookup X dX10_does_34 (by decide) (off := 106) (by decide) 140 (by decide) ?_
  refine v_aload_n X dX10_does_140 141 rfl 3 rfl ?_
  refine v_iload_n X dX10_does_141 142 rfl 2 rfl ?_
  have hb_1 := hO.b4 a
  refine v_muV X hM (h_mo.1) (c_X10_decides_f1 l E b mo co a hO hR hI ga hf) kvX10_decides kiX10_decides kl_X10_112 (q0 := 0) rfl rfl (As := [.int (zI a)]) rfl rfl rfl dX10_does_142 145 rfl (k' := 0) (n' := 0) rfl rfl (fun q hq => hq.elim) h_mo (fun rv H2 lo2 hM hF hpo => ?_)
  subst hpo
  replace h_mo := h_mo.kept hF 5 rfl (fun q _ _ h => h.elim)
  show V p l e (rmL 5 0 0) s m args below meth cd Q 5 H2 lo2 0 0 145 [(4, .int (zI (mo 4 (5 * k + 3)))), (3, .int (zI (mo 4 (5 * k + 2)))), (2, .int (zI a)), (0, .ref b), (1, .int (zI (5 * k)))] [.int (zI 1)]
  subst hQ; exact m_iret X hr hlk hM dX10_does_145 rfl rfl
set_option maxHeartbeats 4000000 in
set_option maxRecDepth 20000 in
theorem c_X10_does_f4_4 (l : Launch) (E : Nat → Nat → Nat) (b : Nat) (mo : Nat → Int → Int) (co : Nat → Int → Int) (k : Int) (a : Int) (y : Int) (f : Int) (z : Int) (hO : OkC co) (hR : RelC co (mo 1)) (hI : TsI co) (k0 : 0 ≤ k) (k1 : k < 61) (h0 : mo 4 (5 * k) = kcd 4) (ha : mo 4 (5 * k + 1) = a) (ga : Rg a) (hf : flC co 4 a y z = 4) : Mu l yX10_does cX10_does 5 (some .int) 5 0 0 E [] [.ref b, .int (zI (5 * k))] (fun H => PR E b (modelW E b mo) H) (fun rv H => rv = some (.int (zI 4))) := by
  refine Mu.start (own := RX10) rfl (by decide +kernel) (Nat.le_of_ble_eq_true rfl) ?_
  intro p e s m below meth cd args Q hQ X hr hlk hnm hM hPr
  have h_mo := hPr
  have hb0 := hO.b0
  have hbw := hO.bw
  have hr0 := hR.s0
  have hr1 := hR.s1
  refine v_aload_n X dX10_does_0 1 rfl 0 rfl ?_
  refine v_getf X hM.C h_mo.1 inX10 0 rfl rfl 14 (by decide) kf_X10_27 (fun _ h => h) rfl dX10_does_1 4 rfl ?_
  refine v_iload_n X dX10_does_4 5 rfl 1 rfl ?_
  refine v_iconst X dX10_does_5 6 rfl ?_
  refine v_iadd X dX10_does_6 7 rfl ?_
  refine v_iald X hM.C h_mo.1 4 rfl (by omega) (by omega) (by omega) dX10_does_7 8 rfl ?_
  show V p l e (rmL 5 0 0) s m args below meth cd Q 5 s.heap [] 0 0 8 [(0, .ref b), (1, .int (zI (5 * k)))] [.int (zI (mo 4 (5 * k + 1)))]
  refine V_S (st' := [.int (zI a)]) (by rw [ha]) ?_
  refine v_istore_n X dX10_does_8 9 rfl rfl (by decide) (L' := [(2, .int (zI a)), (0, .ref b), (1, .int (zI (5 * k)))]) rfl ?_
  refine v_aload_n X dX10_does_9 10 rfl 1 rfl ?_
  refine v_getf X hM.C h_mo.1 inX10 0 rfl rfl 14 (by decide) kf_X10_27 (fun _ h => h) rfl dX10_does_10 13 rfl ?_
  refine v_iload_n X dX10_does_13 14 rfl 2 rfl ?_
  refine v_iconst X dX10_does_14 15 rfl ?_
  refine v_iadd X dX10_does_15 16 rfl ?_
  refine v_iald X hM.C h_mo.1 4 rfl (by omega) (by omega) (by omega) dX10_does_16 17 rfl ?_
  show V p l e (rmL 5 0 0) s m args below meth cd Q 5 s.heap [] 0 0 17 [(2, .int (zI a)), (0, .ref b), (1, .int (zI (5 * k)))] [.int (zI (mo 4 (5 * k + 2)))]
  refine v_istore_n X dX10_does_17 18 rfl rfl (by decide) (L' := [(3, .int (zI (mo 4 (5 * k + 2)))), (2, .int (zI a)), (0, .ref b), (1, .int (zI (5 * k)))]) rfl ?_
  refine v_aload_n X dX10_does_18 19 rfl 2 rfl ?_
  refine v_getf X hM.C h_mo.1 inX10 0 rfl rfl 14 (by decide) kf_X10_27 (fun _ h => h) rfl dX10_does_19 22 rfl ?_
  refine v_iload_n X dX10_does_22 23 rfl 3 rfl ?_
  refine v_iconst X dX10_does_23 24 rfl ?_
  refine v_iadd X dX10_does_24 25 rfl ?_
  refine v_iald X hM.C h_mo.1 4 rfl (by omega) (by omega) (by omega) dX10_does_25 26 rfl ?_
  show V p l e (rmL 5 0 0) s m args below meth cd Q 5 s.heap [] 0 0 26 [(3, .int (zI (mo 4 (5 * k + 2)))), (2, .int (zI a)), (0, .ref b), (1, .int (zI (5 * k)))] [.int (zI (mo 4 (5 * k + 3)))]
  refine v_istore X dX10_does_26 28 rfl (by decide) (L' := [(4, .int (zI (mo 4 (5 * k + 3)))), (3, .int (zI (mo 4 (5 * k + 2)))), (2, .int (zI a)), (0, .ref b), (1, .int (zI (5 * k)))]) rfl ?_
  refine v_aload_n X dX10_does_28 29 rfl 3 rfl ?_
  refine v_getf X hM.C h_mo.1 inX10 0 rfl rfl 14 (by decide) kf_X10_27 (fun _ h => h) rfl dX10_does_29 32 rfl ?_
  refine v_iload_n X dX10_does_32 33 rfl 4 rfl ?_
  refine v_iald X hM.C h_mo.1 4 rfl (by omega) (by omega) (by omega) dX10_does_33 34 rfl ?_
  show V p l e (rmL 5 0 0) s m args below meth cd Q 5 s.heap [] 0 0 34 [(4, .int (zI (mo 4 (5 * k + 3)))), (3, .int (zI (mo 4 (5 * k + 2)))), (2, .int (zI a)), (0, .ref b), (1, .int (zI (5 * k)))] [.int (zI (mo 4 (5 * k)))]
  refine V_S (st' := [.int (zI 100)]) (by rw [h0]; rfl) ?_
  refine v_lookup X dX10_does_34 (by decide) (off := 106) (by decide) 140 (by decide) ?_
  refine v_aload_n X dX10_does_140 141 rfl 3 rfl ?_
  refine v_iload_n X dX10_does_141 142 rfl 2 rfl ?_
  have hb_1 := hO.b4 a
  refine v_muV X hM (h_mo.1) (c_X10_decides_f4 l E b mo co a hO hR hI ga hf) kvX10_decides kiX10_decides kl_X10_112 (q0 := 0) rfl rfl (As := [.int (zI a)]) rfl rfl rfl dX10_does_142 145 rfl (k' := 0) (n' := 0) rfl rfl (fun q hq => hq.elim) h_mo (fun rv H2 lo2 hM hF hpo => ?_)
  subst hpo
  replace h_mo := h_mo.kept hF 5 rfl (fun q _ _ h => h.elim)
  show V p l e (rmL 5 0 0) s m args below meth cd Q 5 H2 lo2 0 0 145 [(4, .int (zI (mo 4 (5 * k + 3)))), (3, .int (zI (mo 4 (5 * k + 2)))), (2, .int (zI a)), (0, .ref b), (1, .int (zI (5 * k)))] [.int (zI 4)]
  subst hQ; exact m_iret X hr hlk hM dX10_does_145 rfl rfl
set_option maxHeartbeats 4000000 in
set_option maxRecDepth 20000 in
theorem c_X10_does_ok_5 (l : Launch) (E : Nat → Nat → Nat) (b : Nat) (mo : Nat → Int → Int) (co : Nat → Int → Int) (k : Int) (a : Int) (y : Int) (f : Int) (z : Int) (hO : OkC co) (hR : RelC co (mo 1)) (hI : TsI co) (k0 : 0 ≤ k) (k1 : k < 61) (h0 : mo 4 (5 * k) = kcd 5) (ha : mo 4 (5 * k + 1) = a) (ga : Rg a) (hf : flC co 5 a y z = 0) : Mu l yX10_does cX10_does 5 (some .int) 5 0 0 E [(b, 5)] [.ref b, .int (zI (5 * k))] (fun H => PR E b (modelW E b mo) H) (fun rv H => ∃ g1 : Int → Int, ∃ q4 : Int, rv = some (.int (zI 0)) ∧ RelC (opC co 5 a y f z) g1 ∧ (∀ i : Int, 492 ≤ i → g1 i = mo 1 i) ∧ PR E b (modelW E b (updC (updC mo 0 (updZ (mo 0) 4 q4)) 1 g1)) H) := by
  refine Mu.start (own := RX10) rfl (by decide +kernel) (Nat.le_of_ble_eq_true rfl) ?_
  intro p e s m below meth cd args Q hQ X hr hlk hnm hM hPr
  have h_mo := hPr
  have hb0 := hO.b0
  have hbw := hO.bw
  have hr0 := hR.s0
  have hr1 := hR.s1
  refine v_aload_n X dX10_does_0 1 rfl 0 rfl ?_
  refine v_getf X hM.C h_mo.1 inX10 0 rfl rfl 14 (by decide) kf_X10_27 (fun _ h => h) rfl dX10_does_1 4 rfl ?_
  refine v_iload_n X dX10_does_4 5 rfl 1 rfl ?_
  refine v_iconst X dX10_does_5 6 rfl ?_
  refine v_iadd X dX10_does_6 7 rfl ?_
  refine v_iald X hM.C h_mo.1 4 rfl (by omega) (by omega) (by omega) dX10_does_7 8 rfl ?_
  show V p l e (rmL 5 0 0) s m args below meth cd Q 5 s.heap [] 0 0 8 [(0, .ref b), (1, .int (zI (5 * k)))] [.int (zI (mo 4 (5 * k + 1)))]
  refine V_S (st' := [.int (zI a)]) (by rw [ha]) ?_
  refine v_istore_n X dX10_does_8 9 rfl rfl (by decide) (L' := [(2, .int (zI a)), (0, .ref b), (1, .int (zI (5 * k)))]) rfl ?_
  refine v_aload_n X dX10_does_9 10 rfl 1 rfl ?_
  refine v_getf X hM.C h_mo.1 inX10 0 rfl rfl 14 (by decide) kf_X10_27 (fun _ h => h) rfl dX10_does_10 13 rfl ?_
  refine v_iload_n X dX10_does_13 14 rfl 2 rfl ?_
  refine v_iconst X dX10_does_14 15 rfl ?_
  refine v_iadd X dX10_does_15 16 rfl ?_
  refine v_iald X hM.C h_mo.1 4 rfl (by omega) (by omega) (by omega) dX10_does_16 17 rfl ?_
  show V p l e (rmL 5 0 0) s m args below meth cd Q 5 s.heap [] 0 0 17 [(2, .int (zI a)), (0, .ref b), (1, .int (zI (5 * k)))] [.int (zI (mo 4 (5 * k + 2)))]
  refine v_istore_n X dX10_does_17 18 rfl rfl (by decide) (L' := [(3, .int (zI (mo 4 (5 * k + 2)))), (2, .int (zI a)), (0, .ref b), (1, .int (zI (5 * k)))]) rfl ?_
  refine v_aload_n X dX10_does_18 19 rfl 2 rfl ?_
  refine v_getf X hM.C h_mo.1 inX10 0 rfl rfl 14 (by decide) kf_X10_27 (fun _ h => h) rfl dX10_does_19 22 rfl ?_
  refine v_iload_n X dX10_does_22 23 rfl 3 rfl ?_
  refine v_iconst X dX10_does_23 24 rfl ?_
  refine v_iadd X dX10_does_24 25 rfl ?_
  refine v_iald X hM.C h_mo.1 4 rfl (by omega) (by omega) (by omega) dX10_does_25 26 rfl ?_
  show V p l e (rmL 5 0 0) s m args below meth cd Q 5 s.heap [] 0 0 26 [(3, .int (zI (mo 4 (5 * k + 2)))), (2, .int (zI a)), (0, .ref b), (1, .int (zI (5 * k)))] [.int (zI (mo 4 (5 * k + 3)))]
  refine v_istore X dX10_does_26 28 rfl (by decide) (L' := [(4, .int (zI (mo 4 (5 * k + 3)))), (3, .int (zI (mo 4 (5 * k + 2)))), (2, .int (zI a)), (0, .ref b), (1, .int (zI (5 * k)))]) rfl ?_
  refine v_aload_n X dX10_does_28 29 rfl 3 rfl ?_
  refine v_getf X hM.C h_mo.1 inX10 0 rfl rfl 14 (by decide) kf_X10_27 (fun _ h => h) rfl dX10_does_29 32 rfl ?_
  refine v_iload_n X dX10_does_32 33 rfl 4 rfl ?_
  refine v_iald X hM.C h_mo.1 4 rfl (by omega) (by omega) (by omega) dX10_does_33 34 rfl ?_
  show V p l e (rmL 5 0 0) s m args below meth cd Q 5 s.heap [] 0 0 34 [(4, .int (zI (mo 4 (5 * k + 3)))), (3, .int (zI (mo 4 (5 * k + 2)))), (2, .int (zI a)), (0, .ref b), (1, .int (zI (5 * k)))] [.int (zI (mo 4 (5 * k)))]
  refine V_S (st' := [.int (zI 97)]) (by rw [h0]; rfl) ?_
  refine v_lookup X dX10_does_34 (by decide) (off := 112) (by decide) 146 (by decide) ?_
  refine v_aload_n X dX10_does_146 147 rfl 3 rfl ?_
  refine v_iload_n X dX10_does_147 148 rfl 2 rfl ?_
  have hb_1 := hO.b5 a
  refine v_muV X hM (h_mo.1) (c_X10_appeals_ok l E b mo co a hO hR hI ga hf) kvX10_appeals kiX10_appeals kl_X10_115 (q0 := 0) rfl rfl (As := [.int (zI a)]) rfl rfl rfl dX10_does_148 151 rfl (k' := 0) (n' := 0) rfl rfl (fsI (fun q q1 q2 => (Or.inl (fsH (by omega) (by omega))))) h_mo (fun rv H2 lo2 hM hF hpo => ?_)
  obtain ⟨g1_3, rfl, hp_f_4, hp_f_5, hw_0⟩ := hpo
  have h_mo : PR E b (modelW E b (updC (updC mo 0 (updZ (mo 0) 4 (opV co 5 a 0 0 0))) 1 g1_3)) H2 := hw_0
  show V p l e (rmL 5 0 0) s m args below meth cd Q 5 H2 lo2 0 0 151 [(4, .int (zI (mo 4 (5 * k + 3)))), (3, .int (zI (mo 4 (5 * k + 2)))), (2, .int (zI a)), (0, .ref b), (1, .int (zI (5 * k)))] [.int (zI 0)]
  subst hQ; exact m_iret X hr hlk hM dX10_does_151 rfl ⟨g1_3, (opV co 5 a 0 0 0), rfl, (by exact hp_f_4), (by exact hp_f_5), h_mo⟩
set_option maxHeartbeats 4000000 in
set_option maxRecDepth 20000 in
theorem c_X10_does_f1_5 (l : Launch) (E : Nat → Nat → Nat) (b : Nat) (mo : Nat → Int → Int) (co : Nat → Int → Int) (k : Int) (a : Int) (y : Int) (f : Int) (z : Int) (hO : OkC co) (hR : RelC co (mo 1)) (hI : TsI co) (k0 : 0 ≤ k) (k1 : k < 61) (h0 : mo 4 (5 * k) = kcd 5) (ha : mo 4 (5 * k + 1) = a) (ga : Rg a) (hf : flC co 5 a y z = 1) : Mu l yX10_does cX10_does 5 (some .int) 5 0 0 E [] [.ref b, .int (zI (5 * k))] (fun H => PR E b (modelW E b mo) H) (fun rv H => rv = some (.int (zI 1))) := by
  refine Mu.start (own := RX10) rfl (by decide +kernel) (Nat.le_of_ble_eq_true rfl) ?_
  intro p e s m below meth cd args Q hQ X hr hlk hnm hM hPr
  have h_mo := hPr
  have hb0 := hO.b0
  have hbw := hO.bw
  have hr0 := hR.s0
  have hr1 := hR.s1
  refine v_aload_n X dX10_does_0 1 rfl 0 rfl ?_
  refine v_getf X hM.C h_mo.1 inX10 0 rfl rfl 14 (by decide) kf_X10_27 (fun _ h => h) rfl dX10_does_1 4 rfl ?_
  refine v_iload_n X dX10_does_4 5 rfl 1 rfl ?_
  refine v_iconst X dX10_does_5 6 rfl ?_
  refine v_iadd X dX10_does_6 7 rfl ?_
  refine v_iald X hM.C h_mo.1 4 rfl (by omega) (by omega) (by omega) dX10_does_7 8 rfl ?_
  show V p l e (rmL 5 0 0) s m args below meth cd Q 5 s.heap [] 0 0 8 [(0, .ref b), (1, .int (zI (5 * k)))] [.int (zI (mo 4 (5 * k + 1)))]
  refine V_S (st' := [.int (zI a)]) (by rw [ha]) ?_
  refine v_istore_n X dX10_does_8 9 rfl rfl (by decide) (L' := [(2, .int (zI a)), (0, .ref b), (1, .int (zI (5 * k)))]) rfl ?_
  refine v_aload_n X dX10_does_9 10 rfl 1 rfl ?_
  refine v_getf X hM.C h_mo.1 inX10 0 rfl rfl 14 (by decide) kf_X10_27 (fun _ h => h) rfl dX10_does_10 13 rfl ?_
  refine v_iload_n X dX10_does_13 14 rfl 2 rfl ?_
  refine v_iconst X dX10_does_14 15 rfl ?_
  refine v_iadd X dX10_does_15 16 rfl ?_
  refine v_iald X hM.C h_mo.1 4 rfl (by omega) (by omega) (by omega) dX10_does_16 17 rfl ?_
  show V p l e (rmL 5 0 0) s m args below meth cd Q 5 s.heap [] 0 0 17 [(2, .int (zI a)), (0, .ref b), (1, .int (zI (5 * k)))] [.int (zI (mo 4 (5 * k + 2)))]
  refine v_istore_n X dX10_does_17 18 rfl rfl (by decide) (L' := [(3, .int (zI (mo 4 (5 * k + 2)))), (2, .int (zI a)), (0, .ref b), (1, .int (zI (5 * k)))]) rfl ?_
  refine v_aload_n X dX10_does_18 19 rfl 2 rfl ?_
  refine v_getf X hM.C h_mo.1 inX10 0 rfl rfl 14 (by decide) kf_X10_27 (fun _ h => h) rfl dX10_does_19 22 rfl ?_
  refine v_iload_n X dX10_does_22 23 rfl 3 rfl ?_
  refine v_iconst X dX10_does_23 24 rfl ?_
  refine v_iadd X dX10_does_24 25 rfl ?_
  refine v_iald X hM.C h_mo.1 4 rfl (by omega) (by omega) (by omega) dX10_does_25 26 rfl ?_
  show V p l e (rmL 5 0 0) s m args below meth cd Q 5 s.heap [] 0 0 26 [(3, .int (zI (mo 4 (5 * k + 2)))), (2, .int (zI a)), (0, .ref b), (1, .int (zI (5 * k)))] [.int (zI (mo 4 (5 * k + 3)))]
  refine v_istore X dX10_does_26 28 rfl (by decide) (L' := [(4, .int (zI (mo 4 (5 * k + 3)))), (3, .int (zI (mo 4 (5 * k + 2)))), (2, .int (zI a)), (0, .ref b), (1, .int (zI (5 * k)))]) rfl ?_
  refine v_aload_n X dX10_does_28 29 rfl 3 rfl ?_
  refine v_getf X hM.C h_mo.1 inX10 0 rfl rfl 14 (by decide) kf_X10_27 (fun _ h => h) rfl dX10_does_29 32 rfl ?_
  refine v_iload_n X dX10_does_32 33 rfl 4 rfl ?_
  refine v_iald X hM.C h_mo.1 4 rfl (by omega) (by omega) (by omega) dX10_does_33 34 rfl ?_
  show V p l e (rmL 5 0 0) s m args below meth cd Q 5 s.heap [] 0 0 34 [(4, .int (zI (mo 4 (5 * k + 3)))), (3, .int (zI (mo 4 (5 * k + 2)))), (2, .int (zI a)), (0, .ref b), (1, .int (zI (5 * k)))] [.int (zI (mo 4 (5 * k)))]
  refine V_S (st' := [.int (zI 97)]) (by rw [h0]; rfl) ?_
  refine v_lookup X dX10_does_34 (by decide) (off := 112) (by decide) 146 (by decide) ?_
  refine v_aload_n X dX10_does_146 147 rfl 3 rfl ?_
  refine v_iload_n X dX10_does_147 148 rfl 2 rfl ?_
  have hb_1 := hO.b5 a
  refine v_muV X hM (h_mo.1) (c_X10_appeals_f1 l E b mo co a hO hR hI ga hf) kvX10_appeals kiX10_appeals kl_X10_115 (q0 := 0) rfl rfl (As := [.int (zI a)]) rfl rfl rfl dX10_does_148 151 rfl (k' := 0) (n' := 0) rfl rfl (fun q hq => hq.elim) h_mo (fun rv H2 lo2 hM hF hpo => ?_)
  subst hpo
  replace h_mo := h_mo.kept hF 5 rfl (fun q _ _ h => h.elim)
  show V p l e (rmL 5 0 0) s m args below meth cd Q 5 H2 lo2 0 0 151 [(4, .int (zI (mo 4 (5 * k + 3)))), (3, .int (zI (mo 4 (5 * k + 2)))), (2, .int (zI a)), (0, .ref b), (1, .int (zI (5 * k)))] [.int (zI 1)]
  subst hQ; exact m_iret X hr hlk hM dX10_does_151 rfl rfl
set_option maxHeartbeats 4000000 in
set_option maxRecDepth 20000 in
theorem c_X10_does_f4_5 (l : Launch) (E : Nat → Nat → Nat) (b : Nat) (mo : Nat → Int → Int) (co : Nat → Int → Int) (k : Int) (a : Int) (y : Int) (f : Int) (z : Int) (hO : OkC co) (hR : RelC co (mo 1)) (hI : TsI co) (k0 : 0 ≤ k) (k1 : k < 61) (h0 : mo 4 (5 * k) = kcd 5) (ha : mo 4 (5 * k + 1) = a) (ga : Rg a) (hf : flC co 5 a y z = 4) : Mu l yX10_does cX10_does 5 (some .int) 5 0 0 E [] [.ref b, .int (zI (5 * k))] (fun H => PR E b (modelW E b mo) H) (fun rv H => rv = some (.int (zI 4))) := by
  refine Mu.start (own := RX10) rfl (by decide +kernel) (Nat.le_of_ble_eq_true rfl) ?_
  intro p e s m below meth cd args Q hQ X hr hlk hnm hM hPr
  have h_mo := hPr
  have hb0 := hO.b0
  have hbw := hO.bw
  have hr0 := hR.s0
  have hr1 := hR.s1
  refine v_aload_n X dX10_does_0 1 rfl 0 rfl ?_
  refine v_getf X hM.C h_mo.1 inX10 0 rfl rfl 14 (by decide) kf_X10_27 (fun _ h => h) rfl dX10_does_1 4 rfl ?_
  refine v_iload_n X dX10_does_4 5 rfl 1 rfl ?_
  refine v_iconst X dX10_does_5 6 rfl ?_
  refine v_iadd X dX10_does_6 7 rfl ?_
  refine v_iald X hM.C h_mo.1 4 rfl (by omega) (by omega) (by omega) dX10_does_7 8 rfl ?_
  show V p l e (rmL 5 0 0) s m args below meth cd Q 5 s.heap [] 0 0 8 [(0, .ref b), (1, .int (zI (5 * k)))] [.int (zI (mo 4 (5 * k + 1)))]
  refine V_S (st' := [.int (zI a)]) (by rw [ha]) ?_
  refine v_istore_n X dX10_does_8 9 rfl rfl (by decide) (L' := [(2, .int (zI a)), (0, .ref b), (1, .int (zI (5 * k)))]) rfl ?_
  refine v_aload_n X dX10_does_9 10 rfl 1 rfl ?_
  refine v_getf X hM.C h_mo.1 inX10 0 rfl rfl 14 (by decide) kf_X10_27 (fun _ h => h) rfl dX10_does_10 13 rfl ?_
  refine v_iload_n X dX10_does_13 14 rfl 2 rfl ?_
  refine v_iconst X dX10_does_14 15 rfl ?_
  refine v_iadd X dX10_does_15 16 rfl ?_
  refine v_iald X hM.C h_mo.1 4 rfl (by omega) (by omega) (by omega) dX10_does_16 17 rfl ?_
  show V p l e (rmL 5 0 0) s m args below meth cd Q 5 s.heap [] 0 0 17 [(2, .int (zI a)), (0, .ref b), (1, .int (zI (5 * k)))] [.int (zI (mo 4 (5 * k + 2)))]
  refine v_istore_n X dX10_does_17 18 rfl rfl (by decide) (L' := [(3, .int (zI (mo 4 (5 * k + 2)))), (2, .int (zI a)), (0, .ref b), (1, .int (zI (5 * k)))]) rfl ?_
  refine v_aload_n X dX10_does_18 19 rfl 2 rfl ?_
  refine v_getf X hM.C h_mo.1 inX10 0 rfl rfl 14 (by decide) kf_X10_27 (fun _ h => h) rfl dX10_does_19 22 rfl ?_
  refine v_iload_n X dX10_does_22 23 rfl 3 rfl ?_
  refine v_iconst X dX10_does_23 24 rfl ?_
  refine v_iadd X dX10_does_24 25 rfl ?_
  refine v_iald X hM.C h_mo.1 4 rfl (by omega) (by omega) (by omega) dX10_does_25 26 rfl ?_
  show V p l e (rmL 5 0 0) s m args below meth cd Q 5 s.heap [] 0 0 26 [(3, .int (zI (mo 4 (5 * k + 2)))), (2, .int (zI a)), (0, .ref b), (1, .int (zI (5 * k)))] [.int (zI (mo 4 (5 * k + 3)))]
  refine v_istore X dX10_does_26 28 rfl (by decide) (L' := [(4, .int (zI (mo 4 (5 * k + 3)))), (3, .int (zI (mo 4 (5 * k + 2)))), (2, .int (zI a)), (0, .ref b), (1, .int (zI (5 * k)))]) rfl ?_
  refine v_aload_n X dX10_does_28 29 rfl 3 rfl ?_
  refine v_getf X hM.C h_mo.1 inX10 0 rfl rfl 14 (by decide) kf_X10_27 (fun _ h => h) rfl dX10_does_29 32 rfl ?_
  refine v_iload_n X dX10_does_32 33 rfl 4 rfl ?_
  refine v_iald X hM.C h_mo.1 4 rfl (by omega) (by omega) (by omega) dX10_does_33 34 rfl ?_
  show V p l e (rmL 5 0 0) s m args below meth cd Q 5 s.heap [] 0 0 34 [(4, .int (zI (mo 4 (5 * k + 3)))), (3, .int (zI (mo 4 (5 * k + 2)))), (2, .int (zI a)), (0, .ref b), (1, .int (zI (5 * k)))] [.int (zI (mo 4 (5 * k)))]
  refine V_S (st' := [.int (zI 97)]) (by rw [h0]; rfl) ?_
  refine v_lookup X dX10_does_34 (by decide) (off := 112) (by decide) 146 (by decide) ?_
  refine v_aload_n X dX10_does_146 147 rfl 3 rfl ?_
  refine v_iload_n X dX10_does_147 148 rfl 2 rfl ?_
  have hb_1 := hO.b5 a
  refine v_muV X hM (h_mo.1) (c_X10_appeals_f4 l E b mo co a hO hR hI ga hf) kvX10_appeals kiX10_appeals kl_X10_115 (q0 := 0) rfl rfl (As := [.int (zI a)]) rfl rfl rfl dX10_does_148 151 rfl (k' := 0) (n' := 0) rfl rfl (fun q hq => hq.elim) h_mo (fun rv H2 lo2 hM hF hpo => ?_)
  subst hpo
  replace h_mo := h_mo.kept hF 5 rfl (fun q _ _ h => h.elim)
  show V p l e (rmL 5 0 0) s m args below meth cd Q 5 H2 lo2 0 0 151 [(4, .int (zI (mo 4 (5 * k + 3)))), (3, .int (zI (mo 4 (5 * k + 2)))), (2, .int (zI a)), (0, .ref b), (1, .int (zI (5 * k)))] [.int (zI 4)]
  subst hQ; exact m_iret X hr hlk hM dX10_does_151 rfl rfl
set_option maxHeartbeats 4000000 in
set_option maxRecDepth 20000 in
theorem c_X10_does_ok_6 (l : Launch) (E : Nat → Nat → Nat) (b : Nat) (mo : Nat → Int → Int) (co : Nat → Int → Int) (k : Int) (a : Int) (y : Int) (f : Int) (z : Int) (hO : OkC co) (hR : RelC co (mo 1)) (hI : TsI co) (k0 : 0 ≤ k) (k1 : k < 61) (h0 : mo 4 (5 * k) = kcd 6) (ha : mo 4 (5 * k + 1) = a) (ga : Rg a) (hf : flC co 6 a y z = 0) : Mu l yX10_does cX10_does 5 (some .int) 5 0 0 E [(b, 5)] [.ref b, .int (zI (5 * k))] (fun H => PR E b (modelW E b mo) H) (fun rv H => ∃ g1 : Int → Int, ∃ q4 : Int, rv = some (.int (zI 0)) ∧ RelC (opC co 6 a y f z) g1 ∧ (∀ i : Int, 492 ≤ i → g1 i = mo 1 i) ∧ PR E b (modelW E b (updC (updC mo 0 (updZ (mo 0) 4 q4)) 1 g1)) H) := by
  refine Mu.start (own := RX10) rfl (by decide +kernel) (Nat.le_of_ble_eq_true rfl) ?_
  intro p e s m below meth cd args Q hQ X hr hlk hnm hM hPr
  have h_mo := hPr
  have hb0 := hO.b0
  have hbw := hO.bw
  have hr0 := hR.s0
  have hr1 := hR.s1
  refine v_aload_n X dX10_does_0 1 rfl 0 rfl ?_
  refine v_getf X hM.C h_mo.1 inX10 0 rfl rfl 14 (by decide) kf_X10_27 (fun _ h => h) rfl dX10_does_1 4 rfl ?_
  refine v_iload_n X dX10_does_4 5 rfl 1 rfl ?_
  refine v_iconst X dX10_does_5 6 rfl ?_
  refine v_iadd X dX10_does_6 7 rfl ?_
  refine v_iald X hM.C h_mo.1 4 rfl (by omega) (by omega) (by omega) dX10_does_7 8 rfl ?_
  show V p l e (rmL 5 0 0) s m args below meth cd Q 5 s.heap [] 0 0 8 [(0, .ref b), (1, .int (zI (5 * k)))] [.int (zI (mo 4 (5 * k + 1)))]
  refine V_S (st' := [.int (zI a)]) (by rw [ha]) ?_
  refine v_istore_n X dX10_does_8 9 rfl rfl (by decide) (L' := [(2, .int (zI a)), (0, .ref b), (1, .int (zI (5 * k)))]) rfl ?_
  refine v_aload_n X dX10_does_9 10 rfl 1 rfl ?_
  refine v_getf X hM.C h_mo.1 inX10 0 rfl rfl 14 (by decide) kf_X10_27 (fun _ h => h) rfl dX10_does_10 13 rfl ?_
  refine v_iload_n X dX10_does_13 14 rfl 2 rfl ?_
  refine v_iconst X dX10_does_14 15 rfl ?_
  refine v_iadd X dX10_does_15 16 rfl ?_
  refine v_iald X hM.C h_mo.1 4 rfl (by omega) (by omega) (by omega) dX10_does_16 17 rfl ?_
  show V p l e (rmL 5 0 0) s m args below meth cd Q 5 s.heap [] 0 0 17 [(2, .int (zI a)), (0, .ref b), (1, .int (zI (5 * k)))] [.int (zI (mo 4 (5 * k + 2)))]
  refine v_istore_n X dX10_does_17 18 rfl rfl (by decide) (L' := [(3, .int (zI (mo 4 (5 * k + 2)))), (2, .int (zI a)), (0, .ref b), (1, .int (zI (5 * k)))]) rfl ?_
  refine v_aload_n X dX10_does_18 19 rfl 2 rfl ?_
  refine v_getf X hM.C h_mo.1 inX10 0 rfl rfl 14 (by decide) kf_X10_27 (fun _ h => h) rfl dX10_does_19 22 rfl ?_
  refine v_iload_n X dX10_does_22 23 rfl 3 rfl ?_
  refine v_iconst X dX10_does_23 24 rfl ?_
  refine v_iadd X dX10_does_24 25 rfl ?_
  refine v_iald X hM.C h_mo.1 4 rfl (by omega) (by omega) (by omega) dX10_does_25 26 rfl ?_
  show V p l e (rmL 5 0 0) s m args below meth cd Q 5 s.heap [] 0 0 26 [(3, .int (zI (mo 4 (5 * k + 2)))), (2, .int (zI a)), (0, .ref b), (1, .int (zI (5 * k)))] [.int (zI (mo 4 (5 * k + 3)))]
  refine v_istore X dX10_does_26 28 rfl (by decide) (L' := [(4, .int (zI (mo 4 (5 * k + 3)))), (3, .int (zI (mo 4 (5 * k + 2)))), (2, .int (zI a)), (0, .ref b), (1, .int (zI (5 * k)))]) rfl ?_
  refine v_aload_n X dX10_does_28 29 rfl 3 rfl ?_
  refine v_getf X hM.C h_mo.1 inX10 0 rfl rfl 14 (by decide) kf_X10_27 (fun _ h => h) rfl dX10_does_29 32 rfl ?_
  refine v_iload_n X dX10_does_32 33 rfl 4 rfl ?_
  refine v_iald X hM.C h_mo.1 4 rfl (by omega) (by omega) (by omega) dX10_does_33 34 rfl ?_
  show V p l e (rmL 5 0 0) s m args below meth cd Q 5 s.heap [] 0 0 34 [(4, .int (zI (mo 4 (5 * k + 3)))), (3, .int (zI (mo 4 (5 * k + 2)))), (2, .int (zI a)), (0, .ref b), (1, .int (zI (5 * k)))] [.int (zI (mo 4 (5 * k)))]
  refine V_S (st' := [.int (zI 108)]) (by rw [h0]; rfl) ?_
  refine v_lookup X dX10_does_34 (by decide) (off := 118) (by decide) 152 (by decide) ?_
  refine v_aload_n X dX10_does_152 153 rfl 3 rfl ?_
  refine v_iload_n X dX10_does_153 154 rfl 2 rfl ?_
  have hb_1 := hO.b6 a
  refine v_muV X hM (h_mo.1) (c_X10_closes_ok l E b mo co a hO hR hI ga hf) kvX10_closes kiX10_closes kl_X10_121 (q0 := 0) rfl rfl (As := [.int (zI a)]) rfl rfl rfl dX10_does_154 157 rfl (k' := 0) (n' := 0) rfl rfl (fsI (fun q q1 q2 => (Or.inl (fsH (by omega) (by omega))))) h_mo (fun rv H2 lo2 hM hF hpo => ?_)
  obtain ⟨g1_3, rfl, hp_f_4, hp_f_5, hw_0⟩ := hpo
  have h_mo : PR E b (modelW E b (updC (updC mo 0 (updZ (mo 0) 4 (opV co 6 a 0 0 0))) 1 g1_3)) H2 := hw_0
  show V p l e (rmL 5 0 0) s m args below meth cd Q 5 H2 lo2 0 0 157 [(4, .int (zI (mo 4 (5 * k + 3)))), (3, .int (zI (mo 4 (5 * k + 2)))), (2, .int (zI a)), (0, .ref b), (1, .int (zI (5 * k)))] [.int (zI 0)]
  subst hQ; exact m_iret X hr hlk hM dX10_does_157 rfl ⟨g1_3, (opV co 6 a 0 0 0), rfl, (by exact hp_f_4), (by exact hp_f_5), h_mo⟩
set_option maxHeartbeats 4000000 in
set_option maxRecDepth 20000 in
theorem c_X10_does_f1_6 (l : Launch) (E : Nat → Nat → Nat) (b : Nat) (mo : Nat → Int → Int) (co : Nat → Int → Int) (k : Int) (a : Int) (y : Int) (f : Int) (z : Int) (hO : OkC co) (hR : RelC co (mo 1)) (hI : TsI co) (k0 : 0 ≤ k) (k1 : k < 61) (h0 : mo 4 (5 * k) = kcd 6) (ha : mo 4 (5 * k + 1) = a) (ga : Rg a) (hf : flC co 6 a y z = 1) : Mu l yX10_does cX10_does 5 (some .int) 5 0 0 E [] [.ref b, .int (zI (5 * k))] (fun H => PR E b (modelW E b mo) H) (fun rv H => rv = some (.int (zI 1))) := by
  refine Mu.start (own := RX10) rfl (by decide +kernel) (Nat.le_of_ble_eq_true rfl) ?_
  intro p e s m below meth cd args Q hQ X hr hlk hnm hM hPr
  have h_mo := hPr
  have hb0 := hO.b0
  have hbw := hO.bw
  have hr0 := hR.s0
  have hr1 := hR.s1
  refine v_aload_n X dX10_does_0 1 rfl 0 rfl ?_
  refine v_getf X hM.C h_mo.1 inX10 0 rfl rfl 14 (by decide) kf_X10_27 (fun _ h => h) rfl dX10_does_1 4 rfl ?_
  refine v_iload_n X dX10_does_4 5 rfl 1 rfl ?_
  refine v_iconst X dX10_does_5 6 rfl ?_
  refine v_iadd X dX10_does_6 7 rfl ?_
  refine v_iald X hM.C h_mo.1 4 rfl (by omega) (by omega) (by omega) dX10_does_7 8 rfl ?_
  show V p l e (rmL 5 0 0) s m args below meth cd Q 5 s.heap [] 0 0 8 [(0, .ref b), (1, .int (zI (5 * k)))] [.int (zI (mo 4 (5 * k + 1)))]
  refine V_S (st' := [.int (zI a)]) (by rw [ha]) ?_
  refine v_istore_n X dX10_does_8 9 rfl rfl (by decide) (L' := [(2, .int (zI a)), (0, .ref b), (1, .int (zI (5 * k)))]) rfl ?_
  refine v_aload_n X dX10_does_9 10 rfl 1 rfl ?_
  refine v_getf X hM.C h_mo.1 inX10 0 rfl rfl 14 (by decide) kf_X10_27 (fun _ h => h) rfl dX10_does_10 13 rfl ?_
  refine v_iload_n X dX10_does_13 14 rfl 2 rfl ?_
  refine v_iconst X dX10_does_14 15 rfl ?_
  refine v_iadd X dX10_does_15 16 rfl ?_
  refine v_iald X hM.C h_mo.1 4 rfl (by omega) (by omega) (by omega) dX10_does_16 17 rfl ?_
  show V p l e (rmL 5 0 0) s m args below meth cd Q 5 s.heap [] 0 0 17 [(2, .int (zI a)), (0, .ref b), (1, .int (zI (5 * k)))] [.int (zI (mo 4 (5 * k + 2)))]
  refine v_istore_n X dX10_does_17 18 rfl rfl (by decide) (L' := [(3, .int (zI (mo 4 (5 * k + 2)))), (2, .int (zI a)), (0, .ref b), (1, .int (zI (5 * k)))]) rfl ?_
  refine v_aload_n X dX10_does_18 19 rfl 2 rfl ?_
  refine v_getf X hM.C h_mo.1 inX10 0 rfl rfl 14 (by decide) kf_X10_27 (fun _ h => h) rfl dX10_does_19 22 rfl ?_
  refine v_iload_n X dX10_does_22 23 rfl 3 rfl ?_
  refine v_iconst X dX10_does_23 24 rfl ?_
  refine v_iadd X dX10_does_24 25 rfl ?_
  refine v_iald X hM.C h_mo.1 4 rfl (by omega) (by omega) (by omega) dX10_does_25 26 rfl ?_
  show V p l e (rmL 5 0 0) s m args below meth cd Q 5 s.heap [] 0 0 26 [(3, .int (zI (mo 4 (5 * k + 2)))), (2, .int (zI a)), (0, .ref b), (1, .int (zI (5 * k)))] [.int (zI (mo 4 (5 * k + 3)))]
  refine v_istore X dX10_does_26 28 rfl (by decide) (L' := [(4, .int (zI (mo 4 (5 * k + 3)))), (3, .int (zI (mo 4 (5 * k + 2)))), (2, .int (zI a)), (0, .ref b), (1, .int (zI (5 * k)))]) rfl ?_
  refine v_aload_n X dX10_does_28 29 rfl 3 rfl ?_
  refine v_getf X hM.C h_mo.1 inX10 0 rfl rfl 14 (by decide) kf_X10_27 (fun _ h => h) rfl dX10_does_29 32 rfl ?_
  refine v_iload_n X dX10_does_32 33 rfl 4 rfl ?_
  refine v_iald X hM.C h_mo.1 4 rfl (by omega) (by omega) (by omega) dX10_does_33 34 rfl ?_
  show V p l e (rmL 5 0 0) s m args below meth cd Q 5 s.heap [] 0 0 34 [(4, .int (zI (mo 4 (5 * k + 3)))), (3, .int (zI (mo 4 (5 * k + 2)))), (2, .int (zI a)), (0, .ref b), (1, .int (zI (5 * k)))] [.int (zI (mo 4 (5 * k)))]
  refine V_S (st' := [.int (zI 108)]) (by rw [h0]; rfl) ?_
  refine v_lookup X dX10_does_34 (by decide) (off := 118) (by decide) 152 (by decide) ?_
  refine v_aload_n X dX10_does_152 153 rfl 3 rfl ?_
  refine v_iload_n X dX10_does_153 154 rfl 2 rfl ?_
  have hb_1 := hO.b6 a
  refine v_muV X hM (h_mo.1) (c_X10_closes_f1 l E b mo co a hO hR hI ga hf) kvX10_closes kiX10_closes kl_X10_121 (q0 := 0) rfl rfl (As := [.int (zI a)]) rfl rfl rfl dX10_does_154 157 rfl (k' := 0) (n' := 0) rfl rfl (fun q hq => hq.elim) h_mo (fun rv H2 lo2 hM hF hpo => ?_)
  subst hpo
  replace h_mo := h_mo.kept hF 5 rfl (fun q _ _ h => h.elim)
  show V p l e (rmL 5 0 0) s m args below meth cd Q 5 H2 lo2 0 0 157 [(4, .int (zI (mo 4 (5 * k + 3)))), (3, .int (zI (mo 4 (5 * k + 2)))), (2, .int (zI a)), (0, .ref b), (1, .int (zI (5 * k)))] [.int (zI 1)]
  subst hQ; exact m_iret X hr hlk hM dX10_does_157 rfl rfl
set_option maxHeartbeats 4000000 in
set_option maxRecDepth 20000 in
theorem c_X10_does_f4_6 (l : Launch) (E : Nat → Nat → Nat) (b : Nat) (mo : Nat → Int → Int) (co : Nat → Int → Int) (k : Int) (a : Int) (y : Int) (f : Int) (z : Int) (hO : OkC co) (hR : RelC co (mo 1)) (hI : TsI co) (k0 : 0 ≤ k) (k1 : k < 61) (h0 : mo 4 (5 * k) = kcd 6) (ha : mo 4 (5 * k + 1) = a) (ga : Rg a) (hf : flC co 6 a y z = 4) : Mu l yX10_does cX10_does 5 (some .int) 5 0 0 E [] [.ref b, .int (zI (5 * k))] (fun H => PR E b (modelW E b mo) H) (fun rv H => rv = some (.int (zI 4))) := by
  refine Mu.start (own := RX10) rfl (by decide +kernel) (Nat.le_of_ble_eq_true rfl) ?_
  intro p e s m below meth cd args Q hQ X hr hlk hnm hM hPr
  have h_mo := hPr
  have hb0 := hO.b0
  have hbw := hO.bw
  have hr0 := hR.s0
  have hr1 := hR.s1
  refine v_aload_n X dX10_does_0 1 rfl 0 rfl ?_
  refine v_getf X hM.C h_mo.1 inX10 0 rfl rfl 14 (by decide) kf_X10_27 (fun _ h => h) rfl dX10_does_1 4 rfl ?_
  refine v_iload_n X dX10_does_4 5 rfl 1 rfl ?_
  refine v_iconst X dX10_does_5 6 rfl ?_
  refine v_iadd X dX10_does_6 7 rfl ?_
  refine v_iald X hM.C h_mo.1 4 rfl (by omega) (by omega) (by omega) dX10_does_7 8 rfl ?_
  show V p l e (rmL 5 0 0) s m args below meth cd Q 5 s.heap [] 0 0 8 [(0, .ref b), (1, .int (zI (5 * k)))] [.int (zI (mo 4 (5 * k + 1)))]
  refine V_S (st' := [.int (zI a)]) (by rw [ha]) ?_
  refine v_istore_n X dX10_does_8 9 rfl rfl (by decide) (L' := [(2, .int (zI a)), (0, .ref b), (1, .int (zI (5 * k)))]) rfl ?_
  refine v_aload_n X dX10_does_9 10 rfl 1 rfl ?_
  refine v_getf X hM.C h_mo.1 inX10 0 rfl rfl 14 (by decide) kf_X10_27 (fun _ h => h) rfl dX10_does_10 13 rfl ?_
  refine v_iload_n X dX10_does_13 14 rfl 2 rfl ?_
  refine v_iconst X dX10_does_14 15 rfl ?_
  refine v_iadd X dX10_does_15 16 rfl ?_
  refine v_iald X hM.C h_mo.1 4 rfl (by omega) (by omega) (by omega) dX10_does_16 17 rfl ?_
  show V p l e (rmL 5 0 0) s m args below meth cd Q 5 s.heap [] 0 0 17 [(2, .int (zI a)), (0, .ref b), (1, .int (zI (5 * k)))] [.int (zI (mo 4 (5 * k + 2)))]
  refine v_istore_n X dX10_does_17 18 rfl rfl (by decide) (L' := [(3, .int (zI (mo 4 (5 * k + 2)))), (2, .int (zI a)), (0, .ref b), (1, .int (zI (5 * k)))]) rfl ?_
  refine v_aload_n X dX10_does_18 19 rfl 2 rfl ?_
  refine v_getf X hM.C h_mo.1 inX10 0 rfl rfl 14 (by decide) kf_X10_27 (fun _ h => h) rfl dX10_does_19 22 rfl ?_
  refine v_iload_n X dX10_does_22 23 rfl 3 rfl ?_
  refine v_iconst X dX10_does_23 24 rfl ?_
  refine v_iadd X dX10_does_24 25 rfl ?_
  refine v_iald X hM.C h_mo.1 4 rfl (by omega) (by omega) (by omega) dX10_does_25 26 rfl ?_
  show V p l e (rmL 5 0 0) s m args below meth cd Q 5 s.heap [] 0 0 26 [(3, .int (zI (mo 4 (5 * k + 2)))), (2, .int (zI a)), (0, .ref b), (1, .int (zI (5 * k)))] [.int (zI (mo 4 (5 * k + 3)))]
  refine v_istore X dX10_does_26 28 rfl (by decide) (L' := [(4, .int (zI (mo 4 (5 * k + 3)))), (3, .int (zI (mo 4 (5 * k + 2)))), (2, .int (zI a)), (0, .ref b), (1, .int (zI (5 * k)))]) rfl ?_
  refine v_aload_n X dX10_does_28 29 rfl 3 rfl ?_
  refine v_getf X hM.C h_mo.1 inX10 0 rfl rfl 14 (by decide) kf_X10_27 (fun _ h => h) rfl dX10_does_29 32 rfl ?_
  refine v_iload_n X dX10_does_32 33 rfl 4 rfl ?_
  refine v_iald X hM.C h_mo.1 4 rfl (by omega) (by omega) (by omega) dX10_does_33 34 rfl ?_
  show V p l e (rmL 5 0 0) s m args below meth cd Q 5 s.heap [] 0 0 34 [(4, .int (zI (mo 4 (5 * k + 3)))), (3, .int (zI (mo 4 (5 * k + 2)))), (2, .int (zI a)), (0, .ref b), (1, .int (zI (5 * k)))] [.int (zI (mo 4 (5 * k)))]
  refine V_S (st' := [.int (zI 108)]) (by rw [h0]; rfl) ?_
  refine v_lookup X dX10_does_34 (by decide) (off := 118) (by decide) 152 (by decide) ?_
  refine v_aload_n X dX10_does_152 153 rfl 3 rfl ?_
  refine v_iload_n X dX10_does_153 154 rfl 2 rfl ?_
  have hb_1 := hO.b6 a
  refine v_muV X hM (h_mo.1) (c_X10_closes_f4 l E b mo co a hO hR hI ga hf) kvX10_closes kiX10_closes kl_X10_121 (q0 := 0) rfl rfl (As := [.int (zI a)]) rfl rfl rfl dX10_does_154 157 rfl (k' := 0) (n' := 0) rfl rfl (fun q hq => hq.elim) h_mo (fun rv H2 lo2 hM hF hpo => ?_)
  subst hpo
  replace h_mo := h_mo.kept hF 5 rfl (fun q _ _ h => h.elim)
  show V p l e (rmL 5 0 0) s m args below meth cd Q 5 H2 lo2 0 0 157 [(4, .int (zI (mo 4 (5 * k + 3)))), (3, .int (zI (mo 4 (5 * k + 2)))), (2, .int (zI a)), (0, .ref b), (1, .int (zI (5 * k)))] [.int (zI 4)]
  subst hQ; exact m_iret X hr hlk hM dX10_does_157 rfl rfl
